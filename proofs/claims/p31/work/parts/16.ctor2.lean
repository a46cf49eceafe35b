theorem eB_o {G : zG} {e : xM} {B n : Nat} (h : n < B ∨ B + 39 ≤ n) : eB G e B n = e n := by unfold eB; rw [if_neg (by omega)]
theorem eB_c {G : zG} {e : xM} {B r : Nat} (h : r < 39) : eB G e B (B + r) = some (zE G (zkb r) (B + r) (μB r)) := by
  unfold eB
  rw [if_pos (by omega), show B + r - B = r by omega]
theorem eB_B {G : zG} {e : xM} {B : Nat} : eB G e B B = some (.inr (1, bkF G B)) := eB_c (r := 0) (by omega)
def xf (e : xM) (n : Nat) : xM := fun q => if q = n then none else e q
theorem xf_o {e : xM} {n q : Nat} (h : q ≠ n) : xf e n q = e q := by unfold xf; rw [if_neg h]
theorem zX.forget {G : zG} {e : xM} {n : Nat} {x : va_E} {H : Heap} (h : zX G (xu e n x) H) : zX G (xf e n) H := by
  intro q y hy
  unfold xf at hy
  by_cases hq : q = n
  · rw [if_pos hq] at hy; cases hy
  · rw [if_neg hq] at hy
    exact h q y ((xu_ne hq).trans hy)
def aB (G : zG) (i : Nat) : Nat → Option Nat := fun k => if i ≤ k ∧ k < 4 then none else some (G.1 + (81 + 39 * k))
def eH (G : zG) (e : xM) (i : Nat) : xM := fun n => if n = 79 then some (.inr (2, [.ref (G.1 + 80), .int 0, .int 0])) else if n = 80 then some (.inl (G.2.2.2.2, zRows 4 (aB G i))) else if 81 ≤ n ∧ n < 81 + 39 * i then some (zE G (zkb ((n - 81) % 39)) n (μB ((n - 81) % 39))) else e n
theorem eH_79 {G : zG} {e : xM} {i : Nat} : eH G e i 79 = some (.inr (2, [.ref (G.1 + 80), .int 0, .int 0])) := by unfold eH; rw [if_pos rfl]
theorem eH_80 {G : zG} {e : xM} {i : Nat} : eH G e i 80 = some (.inl (G.2.2.2.2, zRows 4 (aB G i))) := by unfold eH; rw [if_neg (by omega), if_pos rfl]
theorem eH_c {G : zG} {e : xM} {i n : Nat} (h1 : 81 ≤ n) (h2 : n < 81 + 39 * i) : eH G e i n = some (zE G (zkb ((n - 81) % 39)) n (μB ((n - 81) % 39))) := by unfold eH; rw [if_neg (by omega), if_neg (by omega), if_pos ⟨h1, h2⟩]
theorem eH_o {G : zG} {e : xM} {i n : Nat} (h : n < 79 ∨ 81 + 39 * i ≤ n) : eH G e i n = e n := by unfold eH; rw [if_neg (by omega), if_neg (by omega), if_neg (by omega)]
theorem eH_cases {G : zG} {e : xM} {i n : Nat} {y : va_E} (h : eH G e i n = some y) : (n = 79 ∧ y = .inr (2, [.ref (G.1 + 80), .int 0, .int 0])) ∨ (n = 80 ∧ y = .inl (G.2.2.2.2, zRows 4 (aB G i))) ∨ (81 ≤ n ∧ n < 81 + 39 * i ∧ y = zE G (zkb ((n - 81) % 39)) n (μB ((n - 81) % 39))) ∨ ((n < 79 ∨ 81 + 39 * i ≤ n) ∧ e n = some y) := by
  unfold eH at h
  by_cases h1 : n = 79
  · rw [if_pos h1] at h; exact Or.inl ⟨h1, (Option.some.inj h).symm⟩
  · rw [if_neg h1] at h
    by_cases h2 : n = 80
    · rw [if_pos h2] at h; exact Or.inr (Or.inl ⟨h2, (Option.some.inj h).symm⟩)
    · rw [if_neg h2] at h
      by_cases h4 : 81 ≤ n ∧ n < 81 + 39 * i
      · rw [if_pos h4] at h; exact Or.inr (Or.inr (Or.inl ⟨h4.1, h4.2, (Option.some.inj h).symm⟩))
      · rw [if_neg h4] at h; exact Or.inr (Or.inr (Or.inr ⟨by omega, h⟩))
theorem eH_start {G : zG} {e : xM} {H : Heap} (h : zX G (xu (xu e 79 (.inr (2, [.ref (G.1 + 80), .int 0, .int 0]))) 80 (.inl (G.2.2.2.2, zRows 4 (fun _ => none)))) H) : zX G (eH G e 0) H := by
  refine h.re (fun n y hy => ?_)
  rcases eH_cases hy with ⟨rfl, rfl⟩ | ⟨rfl, rfl⟩ | ⟨h1, h2, -⟩ | ⟨h1, h2⟩
  · exact ⟨_, xu_at xu_same (by omega), xeqv.rf⟩
  · exact ⟨_, xu_same, xeqv.rows (fun k hk => (if_pos ⟨Nat.zero_le k, hk⟩).symm)⟩
  · omega
  · by_cases a1 : n = 80
    · omega
    · exact ⟨y, xu_at (xu_at h2 (by omega)) a1, xeqv.rf⟩
theorem eH_step {G : zG} {e : xM} {i : Nat} {x : va_E} {H : Heap} (hi : i < 4) (h : zX G (xu (eB G (xu (eH G e i) (81 + 39 * i) x) (81 + 39 * i)) 80 (.inl (G.2.2.2.2, zRows 4 (va_up (aB G i) (nI i).toNatClampNeg (some (G.1 + (81 + 39 * i))))))) H) : zX G (eH G e (i + 1)) H := by
  refine h.re (fun n y hy => ?_)
  rw [nI_clamp (by omega : i < 2 ^ 31)]
  rcases eH_cases hy with ⟨rfl, rfl⟩ | ⟨rfl, rfl⟩ | ⟨h1, h2, rfl⟩ | ⟨h1, h2⟩
  · exact ⟨_, xu_at ((eB_o (by omega)).trans (xu_at eH_79 (by omega))) (by omega), xeqv.rf⟩
  · refine ⟨_, xu_same, xeqv.rows (fun k hk => ?_)⟩
    unfold va_up aB
    by_cases hki : k = i
    · subst hki
      rw [if_pos rfl, if_neg (by omega)]
    · rw [if_neg hki]
      by_cases h3 : i ≤ k ∧ k < 4
      · rw [if_pos h3, if_pos (by omega)]
      · rw [if_neg h3, if_neg (by omega)]
  · by_cases a1 : n < 81 + 39 * i
    · exact ⟨_, xu_at ((eB_o (by omega)).trans (xu_at (eH_c h1 a1) (by omega))) (by omega), xeqv.rf⟩
    · obtain ⟨r, hr, rfl⟩ : ∃ r, r < 39 ∧ n = 81 + 39 * i + r := ⟨n - (81 + 39 * i), by omega, by omega⟩
      refine ⟨_, xu_at (eB_c hr) (by omega), ?_⟩
      rw [show (81 + 39 * i + r - 81) % 39 = r by omega]
      exact xeqv.rf
  · exact ⟨y, xu_at ((eB_o (by omega)).trans (xu_at ((eH_o (by omega)).trans h2) (by omega))) (by omega), xeqv.rf⟩
theorem hxX0_init : yX0_init.cls ≠ "java/lang/invoke/MethodHandle" ∧ yX0_init.cls ≠ "java/lang/invoke/VarHandle" ∧ (parseMethodDescriptor yX0_init.desc).map (fun d => d.parameters.length) = some 0 := by decide +kernel
set_option maxHeartbeats 4000000 in
set_option maxRecDepth 100000 in
theorem c_X0_init (l : Launch) (G : zG) (e : xM) (n N : Nat) (he : e n = some (.inr (0, [.null, .int 0, .int 0, .int 0, .null, .null, .null]))) : xMet l G yX0_init cX0_init 1 1 12 4 150 n e N (xf e n) (N + 4) := by
  refine x_start (by decide) rfl (Nat.le_of_ble_eq_true rfl) ?_
  intro p e0 s m args below meth c ls hx hb hml hr hlk hin hts hown hK hN hz hX hS hl
  have hown : s.vm.findClass RX0 = some m.cls := hown
  refine lv_aload_n hx hb dX0_init_0 rfl (lv_at hl 0 rfl) ?_
  refine W.objInit hx hb hown (hts _ q198) (hts _ q15) (hts _ q16) rfl (by rw [hml]; exact hl.1) rfl dX0_init_1 (Nat.le_of_ble_eq_true rfl) (Nat.le_of_ble_eq_true rfl) ?_
  refine W.eq (g2 := F0 m 4 ls []) rfl ?_
  refine lv_aload_n hx hb dX0_init_4 rfl (lv_at hl 0 rfl) ?_
  refine lv_bipush (v := 60) hx hb dX0_init_5 (by decide) ?_
  refine x_newa (atype := .char) (N' := 60) hx hb hts q222 hz hX hS (by decide) (by decide) (by decide) (show 0 + 1 ≤ 4 by omega) (show 0 + 60 ≤ 150 by omega) dX0_init_7 (fun H hz hX hS => ?_)
  refine x_put (e1 := (xu e n (.inr (0, [.ref (G.1 + N), .int 0, .int 0, .int 0, .null, .null, .null])))) (C := RX0) (T := TX0) (N := 7) hx hb hts inX0 tyX0 tyX0_ok nmX0 hown hK hz hX he rfl 0 (by decide) q199 hin rfl (tyX0_ok 0 (by decide)) rfl rfl (Nat.le_of_ble_eq_true rfl) rfl hS dX0_init_9 (fun H locs hz hX hS => ?_)
  refine lv_aload_n hx hb dX0_init_12 rfl (lv_at hl 0 rfl) ?_
  refine lv_iconst (v := 0) hx hb dX0_init_13 (by decide) ?_
  refine x_put (e1 := (xu e n (.inr (0, [.ref (G.1 + N), .int 0, .int 0, .int 0, .null, .null, .null])))) (C := RX0) (T := TX0) (N := 7) hx hb hts inX0 tyX0 tyX0_ok nmX0 hown hK hz hX xu_same rfl 1 (by decide) q200 hin rfl pfd_I rfl rfl (Nat.le_of_ble_eq_true rfl) (xu_id xu_same) hS dX0_init_14 (fun H locs hz hX hS => ?_)
  refine lv_aload_n hx hb dX0_init_17 rfl (lv_at hl 0 rfl) ?_
  refine lv_iconst (v := 0) hx hb dX0_init_18 (by decide) ?_
  refine x_put (e1 := (xu e n (.inr (0, [.ref (G.1 + N), .int 0, .int 0, .int 0, .null, .null, .null])))) (C := RX0) (T := TX0) (N := 7) hx hb hts inX0 tyX0 tyX0_ok nmX0 hown hK hz hX xu_same rfl 2 (by decide) q202 hin rfl pfd_I rfl rfl (Nat.le_of_ble_eq_true rfl) (xu_id xu_same) hS dX0_init_19 (fun H locs hz hX hS => ?_)
  refine lv_aload_n hx hb dX0_init_22 rfl (lv_at hl 0 rfl) ?_
  refine lv_iconst (v := 0) hx hb dX0_init_23 (by decide) ?_
  refine x_put (e1 := (xu e n (.inr (0, [.ref (G.1 + N), .int 0, .int 0, .int 0, .null, .null, .null])))) (C := RX0) (T := TX0) (N := 7) hx hb hts inX0 tyX0 tyX0_ok nmX0 hown hK hz hX xu_same rfl 3 (by decide) q203 hin rfl pfd_I rfl rfl (Nat.le_of_ble_eq_true rfl) (xu_id xu_same) hS dX0_init_24 (fun H locs hz hX hS => ?_)
  refine lv_aload_n hx hb dX0_init_27 rfl (lv_at hl 0 rfl) ?_
  refine lv_bipush (v := 30) hx hb dX0_init_28 (by decide) ?_
  refine x_newa (atype := .int) (N' := 30) hx hb hts q223 hz hX hS (by decide) (by decide) (by decide) (show (0 + 1) + 1 ≤ 4 by omega) (show (0 + 60) + 30 ≤ 150 by omega) dX0_init_30 (fun H hz hX hS => ?_)
  refine x_put (e1 := (xu e n (.inr (0, [.ref (G.1 + N), .int 0, .int 0, .int 0, .ref (G.1 + (N + 1)), .null, .null])))) (C := RX0) (T := TX0) (N := 7) hx hb hts inX0 tyX0 tyX0_ok nmX0 hown hK hz hX xu_same rfl 4 (by decide) q204 hin rfl (tyX0_ok 4 (by decide)) rfl rfl (Nat.le_of_ble_eq_true rfl) xu_xu hS dX0_init_32 (fun H locs hz hX hS => ?_)
  refine lv_aload_n hx hb dX0_init_35 rfl (lv_at hl 0 rfl) ?_
  refine lv_bipush (v := 30) hx hb dX0_init_36 (by decide) ?_
  refine x_newa (atype := .int) (N' := 30) hx hb hts q223 hz hX hS (by decide) (by decide) (by decide) (show ((0 + 1) + 1) + 1 ≤ 4 by omega) (show ((0 + 60) + 30) + 30 ≤ 150 by omega) dX0_init_38 (fun H hz hX hS => ?_)
  refine x_put (e1 := (xu e n (.inr (0, [.ref (G.1 + N), .int 0, .int 0, .int 0, .ref (G.1 + (N + 1)), .ref (G.1 + ((N + 1) + 1)), .null])))) (C := RX0) (T := TX0) (N := 7) hx hb hts inX0 tyX0 tyX0_ok nmX0 hown hK hz hX xu_same rfl 5 (by decide) q205 hin rfl (tyX0_ok 5 (by decide)) rfl rfl (Nat.le_of_ble_eq_true rfl) xu_xu hS dX0_init_40 (fun H locs hz hX hS => ?_)
  refine lv_aload_n hx hb dX0_init_43 rfl (lv_at hl 0 rfl) ?_
  refine lv_bipush (v := 30) hx hb dX0_init_44 (by decide) ?_
  refine x_newa (atype := .int) (N' := 30) hx hb hts q223 hz hX hS (by decide) (by decide) (by decide) (show (((0 + 1) + 1) + 1) + 1 ≤ 4 by omega) (show (((0 + 60) + 30) + 30) + 30 ≤ 150 by omega) dX0_init_46 (fun H hz hX hS => ?_)
  refine x_put (e1 := (xu e n (.inr (0, [.ref (G.1 + N), .int 0, .int 0, .int 0, .ref (G.1 + (N + 1)), .ref (G.1 + ((N + 1) + 1)), .ref (G.1 + (((N + 1) + 1) + 1))])))) (C := RX0) (T := TX0) (N := 7) hx hb hts inX0 tyX0 tyX0_ok nmX0 hown hK hz hX xu_same rfl 6 (by decide) q206 hin rfl (tyX0_ok 6 (by decide)) rfl rfl (Nat.le_of_ble_eq_true rfl) xu_xu hS dX0_init_48 (fun H locs hz hX hS => ?_)
  have hX := hX.forget
  have hz : _ = G.1 + (N + 4) := hz
  exact x_vret hx hb hr hlk hK hN hz hX hS (by omega) (by omega) dX0_init_51
theorem hxX2_init : yX2_init.cls ≠ "java/lang/invoke/MethodHandle" ∧ yX2_init.cls ≠ "java/lang/invoke/VarHandle" ∧ (parseMethodDescriptor yX2_init.desc).map (fun d => d.parameters.length) = some 0 := by decide +kernel
set_option maxHeartbeats 4000000 in
set_option maxRecDepth 100000 in
theorem c_X2_init (l : Launch) (G : zG) (e : xM) (he : e 79 = some (.inr (2, [.null, .int 0, .int 0]))) : xMet l G yX2_init cX2_init 2 4 73 157 1520 79 e 80 (eH G e 4) 237 := by
  refine x_start (by decide) rfl (Nat.le_of_ble_eq_true rfl) ?_
  intro p e0 s m args below meth c ls hx hb hml hr hlk hin hts hown hK hN hz hX hS hl
  have hown : s.vm.findClass RX2 = some m.cls := hown
  have loop1 : ∀ (k i : Nat), i + k = 4 → ∀ (H : Heap) (locs : List Loc) (ls : Array Slot), H.size = G.1 + (81 + 39 * i) → zX G (eH G e i) H → va_S (zA G) s.heap H locs → lv_has ls 2 [(1, .int (nI i)), (0, .ref (G.1 + 79))] → W p l e0 { frames := 4, cells := 157, slots := 1520, locals := 73 } s m args below meth c H locs (1 + 39 * i) (4 + 379 * i) (MQ below (va_Qv (fun _ : Unit => True) (fun _ t => zI G (eH G e 4) 237 t) (zA G)) args s 157 1520 (zA G)) (F0 m 24 ls []) := by
    intro k
    induction k with
    | zero =>
      intro i hi H locs ls hz hX hS hl
      have hi : i = 4 := by omega
      subst hi
      refine lv_iload_n hx hb dX2_init_24 rfl (lv_at hl 0 rfl) ?_
      refine lv_aload_n hx hb dX2_init_25 rfl (lv_at hl 1 rfl) ?_
      refine x_get (C := RX2) (T := TX2) (N := 3) hx hb hts inX2 hown hK hX eH_79 rfl 0 (by decide) q182 (v := .ref (G.1 + 80)) rfl dX2_init_26 ?_
      refine x_alen (v := 4) hx hb hK hX 2 eH_80 rfl rfl dX2_init_29 ?_
      refine lv_icmp_ge (tgt := 52) hx hb dX2_init_30 (by decide) (fun c_1 => ?_) (fun c_1 => ?_)
      · have hz : H.size = G.1 + 237 := by omega
        exact x_vret hx hb hr hlk hK hN hz hX hS (by omega) (by omega) dX2_init_52
      · exact absurd (show nI 4 ≤ nI 4 from nI_le (Nat.le_refl _) (by decide)) c_1
    | succ k ih =>
      intro i hi H locs ls hz hX hS hl
      refine lv_iload_n hx hb dX2_init_24 rfl (lv_at hl 0 rfl) ?_
      refine lv_aload_n hx hb dX2_init_25 rfl (lv_at hl 1 rfl) ?_
      refine x_get (C := RX2) (T := TX2) (N := 3) hx hb hts inX2 hown hK hX eH_79 rfl 0 (by decide) q182 (v := .ref (G.1 + 80)) rfl dX2_init_26 ?_
      refine x_alen (v := 4) hx hb hK hX 2 eH_80 rfl rfl dX2_init_29 ?_
      refine lv_icmp_ge (tgt := 52) hx hb dX2_init_30 (by decide) (fun c_1 => ?_) (fun c_1 => ?_)
      · exact absurd (show nI 4 ≤ nI i from c_1) (nI_ge (by omega) (by decide))
      · refine lv_aload_n hx hb dX2_init_33 rfl (lv_at hl 1 rfl) ?_
        refine x_get (C := RX2) (T := TX2) (N := 3) hx hb hts inX2 hown hK hX eH_79 rfl 0 (by decide) q182 (v := .ref (G.1 + 80)) rfl dX2_init_34 ?_
        refine lv_iload_n hx hb dX2_init_37 rfl (lv_at hl 0 rfl) ?_
        refine x_new (ci := 1) (fs := [.int 0, .int 0, .float 0, .int 0, .int 0, .null, .null]) (C := RX1) (T := TX1) (N := 7) hx hb hts inX1 tyX1 tyX1_ok hown q179 q18 q2 hK hz hX hS rfl (fun j hj => by rcases (show j = 0 ∨ j = 1 ∨ j = 2 ∨ j = 3 ∨ j = 4 ∨ j = 5 ∨ j = 6 by omega) with rfl | rfl | rfl | rfl | rfl | rfl | rfl <;> rfl) (show (1 + 39 * i) + 1 ≤ 157 by omega) (show (4 + 379 * i) + 7 ≤ 1520 by omega) dX2_init_38 (fun H hz hX hS => ?_)
        refine lv_dup hx hb dX2_init_41 rfl ?_
        refine x_callI hx hb hml hown hts hl hK hN hz hX hS (c_X1_init l G (xu (eH G e i) (81 + 39 * i) (.inr (1, [.int 0, .int 0, .float 0, .int 0, .int 0, .null, .null]))) (81 + 39 * i) xu_same) q21 q2 q181 q20 rfl hxX1_init ⟨Nat.le_of_ble_eq_true rfl, Nat.le_of_ble_eq_true rfl⟩ rfl (Nat.le_of_ble_eq_true rfl) dX2_init_42 ⟨show ((1 + 39 * i) + 1) + 38 ≤ 157 by omega, show ((4 + 379 * i) + 7) + 372 ≤ 1520 by omega⟩ (fun H locs hz hX hS => ?_)
        refine x_ast (e1 := _) hx hb hK hz hX hS 2 ((eB_o (by omega)).trans (xu_at eH_80 (by omega))) rfl eB_B rfl (vp_in_nI (by omega) (by decide)) rfl dX2_init_45 (fun H locs hz hX hS => ?_)
        refine lv_iinc (v := (nI (i + 1))) (lv' := [(1, .int (nI (i + 1))), (0, .ref (G.1 + 79))]) hx hb dX2_init_46 hl (k := 0) rfl (nI_1 _) (by decide) rfl (fun ls hl => ?_)
        refine lv_goto (tgt := 24) hx hb dX2_init_49 (by decide) ?_
        have hX := eH_step (by omega) hX
        have hz : _ = G.1 + (81 + 39 * (i + 1)) := hz.trans (by omega)
        refine W.widen (k := 1 + 39 * (i + 1)) (n := 4 + 379 * (i + 1)) (by omega) (by omega) ?_
        exact ih (i + 1) (by omega) _ _ _ hz hX hS (lv_sub hl [0, 1] rfl)
  refine lv_aload_n hx hb dX2_init_0 rfl (lv_at hl 0 rfl) ?_
  refine W.objInit hx hb hown (hts _ q178) (hts _ q15) (hts _ q16) rfl (by rw [hml]; exact hl.1) rfl dX2_init_1 (Nat.le_of_ble_eq_true rfl) (Nat.le_of_ble_eq_true rfl) ?_
  refine W.eq (g2 := F0 m 4 ls []) rfl ?_
  refine lv_aload_n hx hb dX2_init_4 rfl (lv_at hl 0 rfl) ?_
  refine lv_iconst (v := 4) hx hb dX2_init_5 (by decide) ?_
  refine x_newq (C := "TenancyDeposits$Book") (t0 := 2) (N' := 4) hx hb hts hown q179 hN.2.2.2.2.2.2.2 hK rfl hz hX hS (by decide) (by decide) (by decide) (show 0 + 1 ≤ 157 by omega) (show 0 + 4 ≤ 1520 by omega) dX2_init_6 (fun H hz hX hS => ?_)
  refine x_put (e1 := (xu (xu e 80 (.inl (G.2.2.2.2, zRows 4 (fun _ => none)))) 79 (.inr (2, [.ref (G.1 + 80), .int 0, .int 0])))) (C := RX2) (T := TX2) (N := 3) hx hb hts inX2 tyX2 tyX2_ok nmX2 hown hK hz hX (xu_at he (by omega)) rfl 0 (by decide) q182 hin rfl (tyX2_ok 0 (by decide)) rfl rfl (Nat.le_of_ble_eq_true rfl) rfl hS dX2_init_9 (fun H locs hz hX hS => ?_)
  refine lv_aload_n hx hb dX2_init_12 rfl (lv_at hl 0 rfl) ?_
  refine lv_iconst (v := 0) hx hb dX2_init_13 (by decide) ?_
  refine x_put (e1 := (xu (xu e 80 (.inl (G.2.2.2.2, zRows 4 (fun _ => none)))) 79 (.inr (2, [.ref (G.1 + 80), .int 0, .int 0])))) (C := RX2) (T := TX2) (N := 3) hx hb hts inX2 tyX2 tyX2_ok nmX2 hown hK hz hX xu_same rfl 1 (by decide) q183 hin rfl pfd_I rfl rfl (Nat.le_of_ble_eq_true rfl) (xu_id xu_same) hS dX2_init_14 (fun H locs hz hX hS => ?_)
  refine lv_aload_n hx hb dX2_init_17 rfl (lv_at hl 0 rfl) ?_
  refine lv_iconst (v := 0) hx hb dX2_init_18 (by decide) ?_
  refine x_put (e1 := (xu (xu e 80 (.inl (G.2.2.2.2, zRows 4 (fun _ => none)))) 79 (.inr (2, [.ref (G.1 + 80), .int 0, .int 0])))) (C := RX2) (T := TX2) (N := 3) hx hb hts inX2 tyX2 tyX2_ok nmX2 hown hK hz hX xu_same rfl 2 (by decide) q184 hin rfl pfd_I rfl rfl (Nat.le_of_ble_eq_true rfl) (xu_id xu_same) hS dX2_init_19 (fun H locs hz hX hS => ?_)
  refine lv_iconst (v := 0) hx hb dX2_init_22 (by decide) ?_
  refine lv_istore_n (lv' := [(1, .int 0), (0, .ref (G.1 + 79))]) hx hb dX2_init_23 rfl hl (by decide) rfl (fun ls hl => ?_)
  rw [xu_swap (by decide)] at hX
  have hX := eH_start hX
  have hz : _ = G.1 + (81 + 39 * 0) := hz
  exact loop1 4 0 (by omega) _ _ _ hz hX hS (lv_sub hl [0, 1] rfl)
theorem hxX6_init : yX6_init.cls ≠ "java/lang/invoke/MethodHandle" ∧ yX6_init.cls ≠ "java/lang/invoke/VarHandle" ∧ (parseMethodDescriptor yX6_init.desc).map (fun d => d.parameters.length) = some 0 := by decide +kernel
def e_fin (G : zG) (e : xM) : xM := (xu (xu (xf (xu (xu (eH G (xu (xu (eB G (xu (xu (eB G (xu e 1 (.inr (1, [.int 0, .int 0, .float 0, .int 0, .int 0, .null, .null]))) 1) 0 (.inr (6, [.ref (G.1 + 1), .null, .null, .null, .null, .int 0]))) 40 (.inr (1, [.int 0, .int 0, .float 0, .int 0, .int 0, .null, .null]))) 40) 0 (.inr (6, [.ref (G.1 + 1), .ref (G.1 + 40), .null, .null, .null, .int 0]))) 79 (.inr (2, [.null, .int 0, .int 0]))) 4) 0 (.inr (6, [.ref (G.1 + 1), .ref (G.1 + 40), .ref (G.1 + 79), .null, .null, .int 0]))) 237 (.inr (0, [.null, .int 0, .int 0, .int 0, .null, .null, .null]))) 237) 0 (.inr (6, [.ref (G.1 + 1), .ref (G.1 + 40), .ref (G.1 + 79), .ref (G.1 + 237), .ref (G.1 + 242), .int 0]))) 242 (.inr (4, [.int 0, .int 0, .int 0, .int 0, .int 0, .int 0])))
set_option maxHeartbeats 4000000 in
set_option maxRecDepth 100000 in
theorem c_X6_init (l : Launch) (G : zG) (e : xM) (he : e 0 = some (.inr (6, [.null, .null, .null, .null, .null, .int 0]))) : xMet l G yX6_init cX6_init 1 5 94 242 2444 0 e 1 (e_fin G e) 243 := by
  refine x_start (by decide) rfl (Nat.le_of_ble_eq_true rfl) ?_
  intro p e0 s m args below meth c ls hx hb hml hr hlk hin hts hown hK hN hz hX hS hl
  have hown : s.vm.findClass RX6 = some m.cls := hown
  refine lv_aload_n hx hb dX6_init_0 rfl (lv_at hl 0 rfl) ?_
  refine W.objInit hx hb hown (hts _ q14) (hts _ q15) (hts _ q16) rfl (by rw [hml]; exact hl.1) rfl dX6_init_1 (Nat.le_of_ble_eq_true rfl) (Nat.le_of_ble_eq_true rfl) ?_
  refine W.eq (g2 := F0 m 4 ls []) rfl ?_
  refine lv_aload_n hx hb dX6_init_4 rfl (lv_at hl 0 rfl) ?_
  refine x_new (ci := 1) (fs := [.int 0, .int 0, .float 0, .int 0, .int 0, .null, .null]) (C := RX1) (T := TX1) (N := 7) hx hb hts inX1 tyX1 tyX1_ok hown q17 q18 q2 hK hz hX hS rfl (fun j hj => by rcases (show j = 0 ∨ j = 1 ∨ j = 2 ∨ j = 3 ∨ j = 4 ∨ j = 5 ∨ j = 6 by omega) with rfl | rfl | rfl | rfl | rfl | rfl | rfl <;> rfl) (show 0 + 1 ≤ 242 by omega) (show 0 + 7 ≤ 2444 by omega) dX6_init_5 (fun H hz hX hS => ?_)
  refine lv_dup hx hb dX6_init_8 rfl ?_
  refine x_callI hx hb hml hown hts hl hK hN hz hX hS (c_X1_init l G (xu e 1 (.inr (1, [.int 0, .int 0, .float 0, .int 0, .int 0, .null, .null]))) 1 xu_same) q21 q2 q19 q20 rfl hxX1_init ⟨Nat.le_of_ble_eq_true rfl, Nat.le_of_ble_eq_true rfl⟩ rfl (Nat.le_of_ble_eq_true rfl) dX6_init_9 ⟨show (0 + 1) + 38 ≤ 242 by omega, show (0 + 7) + 372 ≤ 2444 by omega⟩ (fun H locs hz hX hS => ?_)
  have hz : _ = G.1 + 40 := hz
  refine x_put (e1 := (xu (eB G (xu e 1 (.inr (1, [.int 0, .int 0, .float 0, .int 0, .int 0, .null, .null]))) 1) 0 (.inr (6, [.ref (G.1 + 1), .null, .null, .null, .null, .int 0])))) (C := RX6) (T := TX6) (N := 6) hx hb hts inX6 tyX6 tyX6_ok nmX6 hown hK hz hX ((eB_o (by omega)).trans (xu_at he (by omega))) rfl 0 (by decide) q226 hin rfl (tyX6_ok 0 (by decide)) rfl rfl (Nat.le_of_ble_eq_true rfl) rfl hS dX6_init_12 (fun H locs hz hX hS => ?_)
  refine lv_aload_n hx hb dX6_init_15 rfl (lv_at hl 0 rfl) ?_
  refine x_new (ci := 1) (fs := [.int 0, .int 0, .float 0, .int 0, .int 0, .null, .null]) (C := RX1) (T := TX1) (N := 7) hx hb hts inX1 tyX1 tyX1_ok hown q17 q18 q2 hK hz hX hS rfl (fun j hj => by rcases (show j = 0 ∨ j = 1 ∨ j = 2 ∨ j = 3 ∨ j = 4 ∨ j = 5 ∨ j = 6 by omega) with rfl | rfl | rfl | rfl | rfl | rfl | rfl <;> rfl) (show ((0 + 1) + 38) + 1 ≤ 242 by omega) (show ((0 + 7) + 372) + 7 ≤ 2444 by omega) dX6_init_16 (fun H hz hX hS => ?_)
  refine lv_dup hx hb dX6_init_19 rfl ?_
  refine x_callI hx hb hml hown hts hl hK hN hz hX hS (c_X1_init l G (xu (xu (eB G (xu e 1 (.inr (1, [.int 0, .int 0, .float 0, .int 0, .int 0, .null, .null]))) 1) 0 (.inr (6, [.ref (G.1 + 1), .null, .null, .null, .null, .int 0]))) 40 (.inr (1, [.int 0, .int 0, .float 0, .int 0, .int 0, .null, .null]))) 40 xu_same) q21 q2 q19 q20 rfl hxX1_init ⟨Nat.le_of_ble_eq_true rfl, Nat.le_of_ble_eq_true rfl⟩ rfl (Nat.le_of_ble_eq_true rfl) dX6_init_20 ⟨show (((0 + 1) + 38) + 1) + 38 ≤ 242 by omega, show (((0 + 7) + 372) + 7) + 372 ≤ 2444 by omega⟩ (fun H locs hz hX hS => ?_)
  have hz : _ = G.1 + 79 := hz
  refine x_put (e1 := (xu (eB G (xu (xu (eB G (xu e 1 (.inr (1, [.int 0, .int 0, .float 0, .int 0, .int 0, .null, .null]))) 1) 0 (.inr (6, [.ref (G.1 + 1), .null, .null, .null, .null, .int 0]))) 40 (.inr (1, [.int 0, .int 0, .float 0, .int 0, .int 0, .null, .null]))) 40) 0 (.inr (6, [.ref (G.1 + 1), .ref (G.1 + 40), .null, .null, .null, .int 0])))) (C := RX6) (T := TX6) (N := 6) hx hb hts inX6 tyX6 tyX6_ok nmX6 hown hK hz hX ((eB_o (by omega)).trans (xu_at xu_same (by omega))) rfl 1 (by decide) q227 hin rfl (tyX6_ok 1 (by decide)) rfl rfl (Nat.le_of_ble_eq_true rfl) rfl hS dX6_init_23 (fun H locs hz hX hS => ?_)
  refine lv_aload_n hx hb dX6_init_26 rfl (lv_at hl 0 rfl) ?_
  refine x_new (ci := 2) (fs := [.null, .int 0, .int 0]) (C := RX2) (T := TX2) (N := 3) hx hb hts inX2 tyX2 tyX2_ok hown q173 q174 q6 hK hz hX hS rfl (fun j hj => by rcases (show j = 0 ∨ j = 1 ∨ j = 2 by omega) with rfl | rfl | rfl <;> rfl) (show ((((0 + 1) + 38) + 1) + 38) + 1 ≤ 242 by omega) (show ((((0 + 7) + 372) + 7) + 372) + 3 ≤ 2444 by omega) dX6_init_27 (fun H hz hX hS => ?_)
  refine lv_dup hx hb dX6_init_30 rfl ?_
  refine x_callI hx hb hml hown hts hl hK hN hz hX hS (c_X2_init l G (xu (xu (eB G (xu (xu (eB G (xu e 1 (.inr (1, [.int 0, .int 0, .float 0, .int 0, .int 0, .null, .null]))) 1) 0 (.inr (6, [.ref (G.1 + 1), .null, .null, .null, .null, .int 0]))) 40 (.inr (1, [.int 0, .int 0, .float 0, .int 0, .int 0, .null, .null]))) 40) 0 (.inr (6, [.ref (G.1 + 1), .ref (G.1 + 40), .null, .null, .null, .int 0]))) 79 (.inr (2, [.null, .int 0, .int 0]))) xu_same) q177 q6 q175 q176 rfl hxX2_init ⟨Nat.le_of_ble_eq_true rfl, Nat.le_of_ble_eq_true rfl⟩ rfl (Nat.le_of_ble_eq_true rfl) dX6_init_31 ⟨show (((((0 + 1) + 38) + 1) + 38) + 1) + 157 ≤ 242 by omega, show (((((0 + 7) + 372) + 7) + 372) + 3) + 1520 ≤ 2444 by omega⟩ (fun H locs hz hX hS => ?_)
  have hz : _ = G.1 + 237 := hz
  refine x_put (e1 := (xu (eH G (xu (xu (eB G (xu (xu (eB G (xu e 1 (.inr (1, [.int 0, .int 0, .float 0, .int 0, .int 0, .null, .null]))) 1) 0 (.inr (6, [.ref (G.1 + 1), .null, .null, .null, .null, .int 0]))) 40 (.inr (1, [.int 0, .int 0, .float 0, .int 0, .int 0, .null, .null]))) 40) 0 (.inr (6, [.ref (G.1 + 1), .ref (G.1 + 40), .null, .null, .null, .int 0]))) 79 (.inr (2, [.null, .int 0, .int 0]))) 4) 0 (.inr (6, [.ref (G.1 + 1), .ref (G.1 + 40), .ref (G.1 + 79), .null, .null, .int 0])))) (C := RX6) (T := TX6) (N := 6) hx hb hts inX6 tyX6 tyX6_ok nmX6 hown hK hz hX ((eH_o (by omega)).trans (xu_at xu_same (by omega))) rfl 2 (by decide) q228 hin rfl (tyX6_ok 2 (by decide)) rfl rfl (Nat.le_of_ble_eq_true rfl) rfl hS dX6_init_34 (fun H locs hz hX hS => ?_)
  refine lv_aload_n hx hb dX6_init_37 rfl (lv_at hl 0 rfl) ?_
  refine x_new (ci := 0) (fs := [.null, .int 0, .int 0, .int 0, .null, .null, .null]) (C := RX0) (T := TX0) (N := 7) hx hb hts inX0 tyX0 tyX0_ok hown q193 q194 q7 hK hz hX hS rfl (fun j hj => by rcases (show j = 0 ∨ j = 1 ∨ j = 2 ∨ j = 3 ∨ j = 4 ∨ j = 5 ∨ j = 6 by omega) with rfl | rfl | rfl | rfl | rfl | rfl | rfl <;> rfl) (show ((((((0 + 1) + 38) + 1) + 38) + 1) + 157) + 1 ≤ 242 by omega) (show ((((((0 + 7) + 372) + 7) + 372) + 3) + 1520) + 7 ≤ 2444 by omega) dX6_init_38 (fun H hz hX hS => ?_)
  refine lv_dup hx hb dX6_init_41 rfl ?_
  refine x_callIN hx hb hml hown hts hl hK hN hz hX hS (c_X0_init l G (xu (xu (eH G (xu (xu (eB G (xu (xu (eB G (xu e 1 (.inr (1, [.int 0, .int 0, .float 0, .int 0, .int 0, .null, .null]))) 1) 0 (.inr (6, [.ref (G.1 + 1), .null, .null, .null, .null, .int 0]))) 40 (.inr (1, [.int 0, .int 0, .float 0, .int 0, .int 0, .null, .null]))) 40) 0 (.inr (6, [.ref (G.1 + 1), .ref (G.1 + 40), .null, .null, .null, .int 0]))) 79 (.inr (2, [.null, .int 0, .int 0]))) 4) 0 (.inr (6, [.ref (G.1 + 1), .ref (G.1 + 40), .ref (G.1 + 79), .null, .null, .int 0]))) 237 (.inr (0, [.null, .int 0, .int 0, .int 0, .null, .null, .null]))) 237 (237 + 1) xu_same) q197 q7 hN.2.2.2.1 q196 rfl hxX0_init ⟨Nat.le_of_ble_eq_true rfl, Nat.le_of_ble_eq_true rfl⟩ rfl (Nat.le_of_ble_eq_true rfl) dX6_init_42 ⟨show (((((((0 + 1) + 38) + 1) + 38) + 1) + 157) + 1) + 4 ≤ 242 by omega, show (((((((0 + 7) + 372) + 7) + 372) + 3) + 1520) + 7) + 150 ≤ 2444 by omega⟩ (fun H locs hz hX hS => ?_)
  have hz : _ = G.1 + 242 := hz
  refine x_put (e1 := (xu (xf (xu (xu (eH G (xu (xu (eB G (xu (xu (eB G (xu e 1 (.inr (1, [.int 0, .int 0, .float 0, .int 0, .int 0, .null, .null]))) 1) 0 (.inr (6, [.ref (G.1 + 1), .null, .null, .null, .null, .int 0]))) 40 (.inr (1, [.int 0, .int 0, .float 0, .int 0, .int 0, .null, .null]))) 40) 0 (.inr (6, [.ref (G.1 + 1), .ref (G.1 + 40), .null, .null, .null, .int 0]))) 79 (.inr (2, [.null, .int 0, .int 0]))) 4) 0 (.inr (6, [.ref (G.1 + 1), .ref (G.1 + 40), .ref (G.1 + 79), .null, .null, .int 0]))) 237 (.inr (0, [.null, .int 0, .int 0, .int 0, .null, .null, .null]))) 237) 0 (.inr (6, [.ref (G.1 + 1), .ref (G.1 + 40), .ref (G.1 + 79), .ref (G.1 + 237), .null, .int 0])))) (C := RX6) (T := TX6) (N := 6) hx hb hts inX6 tyX6 tyX6_ok nmX6 hown hK hz hX ((xf_o (by omega)).trans (xu_at xu_same (by omega))) rfl 3 (by decide) q229 hin rfl (tyX6_ok 3 (by decide)) rfl rfl (Nat.le_of_ble_eq_true rfl) rfl hS dX6_init_45 (fun H locs hz hX hS => ?_)
  refine lv_aload_n hx hb dX6_init_48 rfl (lv_at hl 0 rfl) ?_
  refine x_new (ci := 4) (fs := [.int 0, .int 0, .int 0, .int 0, .int 0, .int 0]) (C := RX4) (T := TX4) (N := 6) hx hb hts inX4 tyX4 tyX4_ok hown q224 q34 q4 hK hz hX hS rfl (fun j hj => by rcases (show j = 0 ∨ j = 1 ∨ j = 2 ∨ j = 3 ∨ j = 4 ∨ j = 5 by omega) with rfl | rfl | rfl | rfl | rfl | rfl <;> rfl) (show ((((((((0 + 1) + 38) + 1) + 38) + 1) + 157) + 1) + 4) + 1 ≤ 242 by omega) (show ((((((((0 + 7) + 372) + 7) + 372) + 3) + 1520) + 7) + 150) + 6 ≤ 2444 by omega) dX6_init_49 (fun H hz hX hS => ?_)
  refine lv_dup hx hb dX6_init_52 rfl ?_
  refine x_callIN hx hb hml hown hts hl hK hN hz hX hS (c_X4_init l G (xu (xu (xf (xu (xu (eH G (xu (xu (eB G (xu (xu (eB G (xu e 1 (.inr (1, [.int 0, .int 0, .float 0, .int 0, .int 0, .null, .null]))) 1) 0 (.inr (6, [.ref (G.1 + 1), .null, .null, .null, .null, .int 0]))) 40 (.inr (1, [.int 0, .int 0, .float 0, .int 0, .int 0, .null, .null]))) 40) 0 (.inr (6, [.ref (G.1 + 1), .ref (G.1 + 40), .null, .null, .null, .int 0]))) 79 (.inr (2, [.null, .int 0, .int 0]))) 4) 0 (.inr (6, [.ref (G.1 + 1), .ref (G.1 + 40), .ref (G.1 + 79), .null, .null, .int 0]))) 237 (.inr (0, [.null, .int 0, .int 0, .int 0, .null, .null, .null]))) 237) 0 (.inr (6, [.ref (G.1 + 1), .ref (G.1 + 40), .ref (G.1 + 79), .ref (G.1 + 237), .null, .int 0]))) 242 (.inr (4, [.int 0, .int 0, .int 0, .int 0, .int 0, .int 0]))) 242 (242 + 1) xu_same) q37 q4 hN.2.2.2.2.1 q36 rfl hxX4_init ⟨Nat.le_of_ble_eq_true rfl, Nat.le_of_ble_eq_true rfl⟩ rfl (Nat.le_of_ble_eq_true rfl) dX6_init_53 ⟨show (((((((((0 + 1) + 38) + 1) + 38) + 1) + 157) + 1) + 4) + 1) + 0 ≤ 242 by omega, show (((((((((0 + 7) + 372) + 7) + 372) + 3) + 1520) + 7) + 150) + 6) + 0 ≤ 2444 by omega⟩ (fun H locs hz hX hS => ?_)
  refine x_put (e1 := (xu (xu (xf (xu (xu (eH G (xu (xu (eB G (xu (xu (eB G (xu e 1 (.inr (1, [.int 0, .int 0, .float 0, .int 0, .int 0, .null, .null]))) 1) 0 (.inr (6, [.ref (G.1 + 1), .null, .null, .null, .null, .int 0]))) 40 (.inr (1, [.int 0, .int 0, .float 0, .int 0, .int 0, .null, .null]))) 40) 0 (.inr (6, [.ref (G.1 + 1), .ref (G.1 + 40), .null, .null, .null, .int 0]))) 79 (.inr (2, [.null, .int 0, .int 0]))) 4) 0 (.inr (6, [.ref (G.1 + 1), .ref (G.1 + 40), .ref (G.1 + 79), .null, .null, .int 0]))) 237 (.inr (0, [.null, .int 0, .int 0, .int 0, .null, .null, .null]))) 237) 0 (.inr (6, [.ref (G.1 + 1), .ref (G.1 + 40), .ref (G.1 + 79), .ref (G.1 + 237), .ref (G.1 + 242), .int 0]))) 242 (.inr (4, [.int 0, .int 0, .int 0, .int 0, .int 0, .int 0])))) (C := RX6) (T := TX6) (N := 6) hx hb hts inX6 tyX6 tyX6_ok nmX6 hown hK hz hX (xu_at xu_same (by omega)) rfl 4 (by decide) q230 hin rfl (tyX6_ok 4 (by decide)) rfl rfl (Nat.le_of_ble_eq_true rfl) (by rw [xu_swap (e := _) (n := 242) (k := 0) (by omega), xu_xu]; rfl) hS dX6_init_56 (fun H locs hz hX hS => ?_)
  refine lv_aload_n hx hb dX6_init_59 rfl (lv_at hl 0 rfl) ?_
  refine lv_iconst (v := 0) hx hb dX6_init_60 (by decide) ?_
  refine x_put (e1 := (xu (xu (xf (xu (xu (eH G (xu (xu (eB G (xu (xu (eB G (xu e 1 (.inr (1, [.int 0, .int 0, .float 0, .int 0, .int 0, .null, .null]))) 1) 0 (.inr (6, [.ref (G.1 + 1), .null, .null, .null, .null, .int 0]))) 40 (.inr (1, [.int 0, .int 0, .float 0, .int 0, .int 0, .null, .null]))) 40) 0 (.inr (6, [.ref (G.1 + 1), .ref (G.1 + 40), .null, .null, .null, .int 0]))) 79 (.inr (2, [.null, .int 0, .int 0]))) 4) 0 (.inr (6, [.ref (G.1 + 1), .ref (G.1 + 40), .ref (G.1 + 79), .null, .null, .int 0]))) 237 (.inr (0, [.null, .int 0, .int 0, .int 0, .null, .null, .null]))) 237) 0 (.inr (6, [.ref (G.1 + 1), .ref (G.1 + 40), .ref (G.1 + 79), .ref (G.1 + 237), .ref (G.1 + 242), .int 0]))) 242 (.inr (4, [.int 0, .int 0, .int 0, .int 0, .int 0, .int 0])))) (C := RX6) (T := TX6) (N := 6) hx hb hts inX6 tyX6 tyX6_ok nmX6 hown hK hz hX (xu_at xu_same (by omega)) rfl 5 (by decide) q231 hin rfl pfd_Z rfl rfl (Nat.le_of_ble_eq_true rfl) (xu_id (xu_at xu_same (by omega))) hS dX6_init_61 (fun H locs hz hX hS => ?_)
  have hz : _ = G.1 + 243 := hz
  exact x_vret hx hb hr hlk hK hN hz hX hS (by omega) (by omega) dX6_init_64
def μ0 (n : Nat) : Nat → Int32 := if 1 ≤ n ∧ n < 79 then μB ((n - 1) % 39) else if 81 ≤ n ∧ n < 237 then μB ((n - 81) % 39) else fun _ => 0
theorem zk_a {n : Nat} (h1 : 1 ≤ n) (h2 : n < 79) : zk n = zkb ((n - 1) % 39) := by unfold zk; rw [if_neg (by omega), if_pos h2]
theorem zk_b {n : Nat} (h1 : 81 ≤ n) (h2 : n < 237) : zk n = zkb ((n - 81) % 39) := by unfold zk; rw [if_neg (by omega), if_neg (by omega), if_neg (by omega), if_neg (by omega), if_pos h2]
theorem μ0_a {n : Nat} (h1 : 1 ≤ n) (h2 : n < 79) : μ0 n = μB ((n - 1) % 39) := by unfold μ0; rw [if_pos ⟨h1, h2⟩]
theorem μ0_b {n : Nat} (h1 : 81 ≤ n) (h2 : n < 237) : μ0 n = μB ((n - 81) % 39) := by unfold μ0; rw [if_neg (by omega), if_pos ⟨h1, h2⟩]
theorem e_fin_zW {G : zG} {e : xM} {H : Heap} (h : zX G (e_fin G e) H) : zW G μ0 H := by
  intro n hn
  by_cases h0 : n = 0
  · subst h0
    exact h 0 _ (xu_at xu_same (by omega))
  · by_cases h1 : n < 40
    · rw [zk_a (by omega) (by omega), μ0_a (by omega) (by omega)]
      obtain ⟨r, hr, rfl⟩ : ∃ r, r < 39 ∧ n = 1 + r := ⟨n - 1, by omega, by omega⟩
      rw [show (1 + r - 1) % 39 = r by omega]
      exact h _ _ ((xu_ne (by omega)).trans ((xu_ne (by omega)).trans ((xf_o (by omega)).trans ((xu_ne (by omega)).trans ((xu_ne (by omega)).trans ((eH_o (by omega)).trans ((xu_ne (by omega)).trans ((xu_ne (by omega)).trans ((eB_o (by omega)).trans ((xu_ne (by omega)).trans ((xu_ne (by omega)).trans (eB_c hr))))))))))))
    · by_cases h2 : n < 79
      · rw [zk_a (by omega) (by omega), μ0_a (by omega) (by omega)]
        obtain ⟨r, hr, rfl⟩ : ∃ r, r < 39 ∧ n = 40 + r := ⟨n - 40, by omega, by omega⟩
        rw [show (40 + r - 1) % 39 = r by omega]
        exact h _ _ ((xu_ne (by omega)).trans ((xu_ne (by omega)).trans ((xf_o (by omega)).trans ((xu_ne (by omega)).trans ((xu_ne (by omega)).trans ((eH_o (by omega)).trans ((xu_ne (by omega)).trans ((xu_ne (by omega)).trans (eB_c hr)))))))))
      · by_cases h3 : n = 79
        · subst h3
          exact h _ _ ((xu_ne (by omega)).trans ((xu_ne (by omega)).trans ((xf_o (by omega)).trans ((xu_ne (by omega)).trans ((xu_ne (by omega)).trans eH_79)))))
        · by_cases h4 : n = 80
          · subst h4
            have := h _ _ ((xu_ne (by omega)).trans ((xu_ne (by omega)).trans ((xf_o (by omega)).trans ((xu_ne (by omega)).trans ((xu_ne (by omega)).trans eH_80)))))
            exact xeqv.rows (fun k hk => if_neg (by omega)) H this
          · by_cases h5 : n < 237
            · rw [zk_b (by omega) h5, μ0_b (by omega) h5]
              exact h _ _ ((xu_ne (by omega)).trans ((xu_ne (by omega)).trans ((xf_o (by omega)).trans ((xu_ne (by omega)).trans ((xu_ne (by omega)).trans (eH_c (by omega) (by omega)))))))
            · by_cases h6 : n = 242
              · subst h6
                exact h _ _ xu_same
              · exfalso
                have : zk n = 9 := by unfold zk; rw [if_neg h0, if_neg (by omega), if_neg h3, if_neg h4, if_neg h5, if_neg h6]
                omega
