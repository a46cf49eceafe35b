theorem hxX4_init : yX4_init.cls ≠ "java/lang/invoke/MethodHandle" ∧ yX4_init.cls ≠ "java/lang/invoke/VarHandle" ∧ (parseMethodDescriptor yX4_init.desc).map (fun d => d.parameters.length) = some 0 := by decide +kernel
set_option maxHeartbeats 4000000 in
set_option maxRecDepth 100000 in
theorem c_X4_init (l : Launch) (G : zG) (e : xM) (n N : Nat) (he : e n = some (.inr (4, [.int 0, .int 0, .int 0, .int 0, .int 0, .int 0]))) : xMet l G yX4_init cX4_init 1 1 12 0 0 n e N e N := by
  refine x_start (by decide) rfl (Nat.le_of_ble_eq_true rfl) ?_
  intro p e0 s m args below meth c ls hx hb hml hr hlk hin hts hown hK hN hz hX hS hl
  have hown : s.vm.findClass RX4 = some m.cls := hown
  refine lv_aload_n hx hb dX4_init_0 rfl (lv_at hl 0 rfl) ?_
  refine W.objInit hx hb hown (hts _ q38) (hts _ q15) (hts _ q16) rfl (by rw [hml]; exact hl.1) rfl dX4_init_1 (Nat.le_of_ble_eq_true rfl) (Nat.le_of_ble_eq_true rfl) ?_
  refine W.eq (g2 := F0 m 4 ls []) rfl ?_
  refine lv_aload_n hx hb dX4_init_4 rfl (lv_at hl 0 rfl) ?_
  refine lv_iconst (v := 0) hx hb dX4_init_5 (by decide) ?_
  refine x_put (e1 := e) (C := RX4) (T := TX4) (N := 6) hx hb hts inX4 tyX4 tyX4_ok nmX4 hown hK hz hX he rfl 0 (by decide) q39 hin rfl pfd_I rfl rfl (by decide) (xu_id he) hS dX4_init_6 (fun H locs hz hX hS => ?_)
  refine lv_aload_n hx hb dX4_init_9 rfl (lv_at hl 0 rfl) ?_
  refine lv_iconst (v := 0) hx hb dX4_init_10 (by decide) ?_
  refine x_put (e1 := e) (C := RX4) (T := TX4) (N := 6) hx hb hts inX4 tyX4 tyX4_ok nmX4 hown hK hz hX he rfl 1 (by decide) q40 hin rfl pfd_I rfl rfl (by decide) (xu_id he) hS dX4_init_11 (fun H locs hz hX hS => ?_)
  refine lv_aload_n hx hb dX4_init_14 rfl (lv_at hl 0 rfl) ?_
  refine lv_iconst (v := 0) hx hb dX4_init_15 (by decide) ?_
  refine x_put (e1 := e) (C := RX4) (T := TX4) (N := 6) hx hb hts inX4 tyX4 tyX4_ok nmX4 hown hK hz hX he rfl 2 (by decide) q42 hin rfl pfd_I rfl rfl (by decide) (xu_id he) hS dX4_init_16 (fun H locs hz hX hS => ?_)
  refine lv_aload_n hx hb dX4_init_19 rfl (lv_at hl 0 rfl) ?_
  refine lv_iconst (v := 0) hx hb dX4_init_20 (by decide) ?_
  refine x_put (e1 := e) (C := RX4) (T := TX4) (N := 6) hx hb hts inX4 tyX4 tyX4_ok nmX4 hown hK hz hX he rfl 3 (by decide) q43 hin rfl pfd_I rfl rfl (by decide) (xu_id he) hS dX4_init_21 (fun H locs hz hX hS => ?_)
  refine lv_aload_n hx hb dX4_init_24 rfl (lv_at hl 0 rfl) ?_
  refine lv_iconst (v := 0) hx hb dX4_init_25 (by decide) ?_
  refine x_put (e1 := e) (C := RX4) (T := TX4) (N := 6) hx hb hts inX4 tyX4 tyX4_ok nmX4 hown hK hz hX he rfl 4 (by decide) q44 hin rfl pfd_I rfl rfl (by decide) (xu_id he) hS dX4_init_26 (fun H locs hz hX hS => ?_)
  refine lv_aload_n hx hb dX4_init_29 rfl (lv_at hl 0 rfl) ?_
  refine lv_iconst (v := 0) hx hb dX4_init_30 (by decide) ?_
  refine x_put (e1 := e) (C := RX4) (T := TX4) (N := 6) hx hb hts inX4 tyX4 tyX4_ok nmX4 hown hK hz hX he rfl 5 (by decide) q45 hin rfl pfd_I rfl rfl (by decide) (xu_id he) hS dX4_init_31 (fun H locs hz hX hS => ?_)
  exact x_vret hx hb hr hlk hK hN hz hX hS (by omega) (by omega) dX4_init_34
theorem hxX3_init : yX3_init.cls ≠ "java/lang/invoke/MethodHandle" ∧ yX3_init.cls ≠ "java/lang/invoke/VarHandle" ∧ (parseMethodDescriptor yX3_init.desc).map (fun d => d.parameters.length) = some 0 := by decide +kernel
set_option maxHeartbeats 4000000 in
set_option maxRecDepth 100000 in
theorem c_X3_init (l : Launch) (G : zG) (e : xM) (n N : Nat) (he : e n = some (.inr (3, [.int 0, .int 0, .int 0, .int 0, .int 0, .int 0, .int 0, .int 0, .int 0, .int 0, .int 0]))) : xMet l G yX3_init cX3_init 1 1 12 0 0 n e N e N := by
  refine x_start (by decide) rfl (Nat.le_of_ble_eq_true rfl) ?_
  intro p e0 s m args below meth c ls hx hb hml hr hlk hin hts hown hK hN hz hX hS hl
  have hown : s.vm.findClass RX3 = some m.cls := hown
  refine lv_aload_n hx hb dX3_init_0 rfl (lv_at hl 0 rfl) ?_
  refine W.objInit hx hb hown (hts _ q98) (hts _ q15) (hts _ q16) rfl (by rw [hml]; exact hl.1) rfl dX3_init_1 (Nat.le_of_ble_eq_true rfl) (Nat.le_of_ble_eq_true rfl) ?_
  refine W.eq (g2 := F0 m 4 ls []) rfl ?_
  refine lv_aload_n hx hb dX3_init_4 rfl (lv_at hl 0 rfl) ?_
  refine lv_iconst (v := 0) hx hb dX3_init_5 (by decide) ?_
  refine x_put (e1 := e) (C := RX3) (T := TX3) (N := 11) hx hb hts inX3 tyX3 tyX3_ok nmX3 hown hK hz hX he rfl 0 (by decide) q99 hin rfl pfd_I rfl rfl (by decide) (xu_id he) hS dX3_init_6 (fun H locs hz hX hS => ?_)
  refine lv_aload_n hx hb dX3_init_9 rfl (lv_at hl 0 rfl) ?_
  refine lv_iconst (v := 0) hx hb dX3_init_10 (by decide) ?_
  refine x_put (e1 := e) (C := RX3) (T := TX3) (N := 11) hx hb hts inX3 tyX3 tyX3_ok nmX3 hown hK hz hX he rfl 1 (by decide) q102 hin rfl pfd_I rfl rfl (by decide) (xu_id he) hS dX3_init_11 (fun H locs hz hX hS => ?_)
  refine lv_aload_n hx hb dX3_init_14 rfl (lv_at hl 0 rfl) ?_
  refine lv_iconst (v := 0) hx hb dX3_init_15 (by decide) ?_
  refine x_put (e1 := e) (C := RX3) (T := TX3) (N := 11) hx hb hts inX3 tyX3 tyX3_ok nmX3 hown hK hz hX he rfl 2 (by decide) q104 hin rfl pfd_I rfl rfl (by decide) (xu_id he) hS dX3_init_16 (fun H locs hz hX hS => ?_)
  refine lv_aload_n hx hb dX3_init_19 rfl (lv_at hl 0 rfl) ?_
  refine lv_iconst (v := 0) hx hb dX3_init_20 (by decide) ?_
  refine x_put (e1 := e) (C := RX3) (T := TX3) (N := 11) hx hb hts inX3 tyX3 tyX3_ok nmX3 hown hK hz hX he rfl 3 (by decide) q105 hin rfl pfd_I rfl rfl (by decide) (xu_id he) hS dX3_init_21 (fun H locs hz hX hS => ?_)
  refine lv_aload_n hx hb dX3_init_24 rfl (lv_at hl 0 rfl) ?_
  refine lv_iconst (v := 0) hx hb dX3_init_25 (by decide) ?_
  refine x_put (e1 := e) (C := RX3) (T := TX3) (N := 11) hx hb hts inX3 tyX3 tyX3_ok nmX3 hown hK hz hX he rfl 4 (by decide) q106 hin rfl pfd_I rfl rfl (by decide) (xu_id he) hS dX3_init_26 (fun H locs hz hX hS => ?_)
  refine lv_aload_n hx hb dX3_init_29 rfl (lv_at hl 0 rfl) ?_
  refine lv_iconst (v := 0) hx hb dX3_init_30 (by decide) ?_
  refine x_put (e1 := e) (C := RX3) (T := TX3) (N := 11) hx hb hts inX3 tyX3 tyX3_ok nmX3 hown hK hz hX he rfl 5 (by decide) q108 hin rfl pfd_I rfl rfl (by decide) (xu_id he) hS dX3_init_31 (fun H locs hz hX hS => ?_)
  refine lv_aload_n hx hb dX3_init_34 rfl (lv_at hl 0 rfl) ?_
  refine lv_iconst (v := 0) hx hb dX3_init_35 (by decide) ?_
  refine x_put (e1 := e) (C := RX3) (T := TX3) (N := 11) hx hb hts inX3 tyX3 tyX3_ok nmX3 hown hK hz hX he rfl 6 (by decide) q110 hin rfl pfd_I rfl rfl (by decide) (xu_id he) hS dX3_init_36 (fun H locs hz hX hS => ?_)
  refine lv_aload_n hx hb dX3_init_39 rfl (lv_at hl 0 rfl) ?_
  refine lv_iconst (v := 0) hx hb dX3_init_40 (by decide) ?_
  refine x_put (e1 := e) (C := RX3) (T := TX3) (N := 11) hx hb hts inX3 tyX3 tyX3_ok nmX3 hown hK hz hX he rfl 7 (by decide) q113 hin rfl pfd_I rfl rfl (by decide) (xu_id he) hS dX3_init_41 (fun H locs hz hX hS => ?_)
  refine lv_aload_n hx hb dX3_init_44 rfl (lv_at hl 0 rfl) ?_
  refine lv_iconst (v := 0) hx hb dX3_init_45 (by decide) ?_
  refine x_put (e1 := e) (C := RX3) (T := TX3) (N := 11) hx hb hts inX3 tyX3 tyX3_ok nmX3 hown hK hz hX he rfl 8 (by decide) q116 hin rfl pfd_I rfl rfl (by decide) (xu_id he) hS dX3_init_46 (fun H locs hz hX hS => ?_)
  refine lv_aload_n hx hb dX3_init_49 rfl (lv_at hl 0 rfl) ?_
  refine lv_iconst (v := 0) hx hb dX3_init_50 (by decide) ?_
  refine x_put (e1 := e) (C := RX3) (T := TX3) (N := 11) hx hb hts inX3 tyX3 tyX3_ok nmX3 hown hK hz hX he rfl 9 (by decide) q119 hin rfl pfd_I rfl rfl (by decide) (xu_id he) hS dX3_init_51 (fun H locs hz hX hS => ?_)
  refine lv_aload_n hx hb dX3_init_54 rfl (lv_at hl 0 rfl) ?_
  refine lv_iconst (v := 0) hx hb dX3_init_55 (by decide) ?_
  refine x_put (e1 := e) (C := RX3) (T := TX3) (N := 11) hx hb hts inX3 tyX3 tyX3_ok nmX3 hown hK hz hX he rfl 10 (by decide) q121 hin rfl pfd_I rfl rfl (by decide) (xu_id he) hS dX3_init_56 (fun H locs hz hX hS => ?_)
  exact x_vret hx hb hr hlk hK hN hz hX hS (by omega) (by omega) dX3_init_59
theorem hxX5_init : yX5_init.cls ≠ "java/lang/invoke/MethodHandle" ∧ yX5_init.cls ≠ "java/lang/invoke/VarHandle" ∧ (parseMethodDescriptor yX5_init.desc).map (fun d => d.parameters.length) = some 0 := by decide +kernel
set_option maxHeartbeats 4000000 in
set_option maxRecDepth 100000 in
theorem c_X5_init (l : Launch) (G : zG) (e : xM) (n N : Nat) (he : e n = some (.inr (5, [.int 0, .int 0, .int 0, .int 0, .int 0, .int 0, .null]))) (hne : n ≠ N) : xMet l G yX5_init cX5_init 1 2 32 1 6 n e N (xu (xu e N (.inr (4, [.int 0, .int 0, .int 0, .int 0, .int 0, .int 0]))) n (.inr (5, [.int 0, .int 0, .int 0, .int 0, .int 0, .int 0, .ref (G.1 + N)]))) (N + 1) := by
  refine x_start (by decide) rfl (Nat.le_of_ble_eq_true rfl) ?_
  intro p e0 s m args below meth c ls hx hb hml hr hlk hin hts hown hK hN hz hX hS hl
  have hown : s.vm.findClass RX5 = some m.cls := hown
  refine lv_aload_n hx hb dX5_init_0 rfl (lv_at hl 0 rfl) ?_
  refine W.objInit hx hb hown (hts _ q32) (hts _ q15) (hts _ q16) rfl (by rw [hml]; exact hl.1) rfl dX5_init_1 (Nat.le_of_ble_eq_true rfl) (Nat.le_of_ble_eq_true rfl) ?_
  refine W.eq (g2 := F0 m 4 ls []) rfl ?_
  refine lv_aload_n hx hb dX5_init_4 rfl (lv_at hl 0 rfl) ?_
  refine lv_iconst (v := 0) hx hb dX5_init_5 (by decide) ?_
  refine x_put (e1 := e) (C := RX5) (T := TX5) (N := 7) hx hb hts inX5 tyX5 tyX5_ok nmX5 hown hK hz hX he rfl 0 (by decide) q59 hin rfl pfd_I rfl rfl (by decide) (xu_id he) hS dX5_init_6 (fun H locs hz hX hS => ?_)
  refine lv_aload_n hx hb dX5_init_9 rfl (lv_at hl 0 rfl) ?_
  refine lv_iconst (v := 0) hx hb dX5_init_10 (by decide) ?_
  refine x_put (e1 := e) (C := RX5) (T := TX5) (N := 7) hx hb hts inX5 tyX5 tyX5_ok nmX5 hown hK hz hX he rfl 1 (by decide) q62 hin rfl pfd_I rfl rfl (by decide) (xu_id he) hS dX5_init_11 (fun H locs hz hX hS => ?_)
  refine lv_aload_n hx hb dX5_init_14 rfl (lv_at hl 0 rfl) ?_
  refine lv_iconst (v := 0) hx hb dX5_init_15 (by decide) ?_
  refine x_put (e1 := e) (C := RX5) (T := TX5) (N := 7) hx hb hts inX5 tyX5 tyX5_ok nmX5 hown hK hz hX he rfl 2 (by decide) q65 hin rfl pfd_I rfl rfl (by decide) (xu_id he) hS dX5_init_16 (fun H locs hz hX hS => ?_)
  refine lv_aload_n hx hb dX5_init_19 rfl (lv_at hl 0 rfl) ?_
  refine lv_iconst (v := 0) hx hb dX5_init_20 (by decide) ?_
  refine x_put (e1 := e) (C := RX5) (T := TX5) (N := 7) hx hb hts inX5 tyX5 tyX5_ok nmX5 hown hK hz hX he rfl 3 (by decide) q68 hin rfl pfd_I rfl rfl (by decide) (xu_id he) hS dX5_init_21 (fun H locs hz hX hS => ?_)
  refine lv_aload_n hx hb dX5_init_24 rfl (lv_at hl 0 rfl) ?_
  refine lv_iconst (v := 0) hx hb dX5_init_25 (by decide) ?_
  refine x_put (e1 := e) (C := RX5) (T := TX5) (N := 7) hx hb hts inX5 tyX5 tyX5_ok nmX5 hown hK hz hX he rfl 4 (by decide) q71 hin rfl pfd_I rfl rfl (by decide) (xu_id he) hS dX5_init_26 (fun H locs hz hX hS => ?_)
  refine lv_aload_n hx hb dX5_init_29 rfl (lv_at hl 0 rfl) ?_
  refine lv_iconst (v := 0) hx hb dX5_init_30 (by decide) ?_
  refine x_put (e1 := e) (C := RX5) (T := TX5) (N := 7) hx hb hts inX5 tyX5 tyX5_ok nmX5 hown hK hz hX he rfl 5 (by decide) q74 hin rfl pfd_I rfl rfl (by decide) (xu_id he) hS dX5_init_31 (fun H locs hz hX hS => ?_)
  refine lv_aload_n hx hb dX5_init_34 rfl (lv_at hl 0 rfl) ?_
  refine x_new (ci := 4) (fs := [.int 0, .int 0, .int 0, .int 0, .int 0, .int 0]) (C := RX4) (T := TX4) (N := 6) hx hb hts inX4 tyX4 tyX4_ok hown q33 q34 q4 hK hz hX hS rfl (fun j hj => by rcases (show j = 0 ∨ j = 1 ∨ j = 2 ∨ j = 3 ∨ j = 4 ∨ j = 5 by omega) with rfl | rfl | rfl | rfl | rfl | rfl <;> rfl) (show 0 + 1 ≤ 1 by omega) (show 0 + 6 ≤ 6 by omega) dX5_init_35 (fun H hz hX hS => ?_)
  refine lv_dup hx hb dX5_init_38 rfl ?_
  refine x_callIN hx hb hml hown hts hl hK hN hz hX hS (c_X4_init l G (xu e N (.inr (4, [.int 0, .int 0, .int 0, .int 0, .int 0, .int 0]))) N (N + 1) xu_same) q37 q4 hN.2.1 q36 rfl hxX4_init ⟨Nat.le_of_ble_eq_true rfl, Nat.le_of_ble_eq_true rfl⟩ rfl (Nat.le_of_ble_eq_true rfl) dX5_init_39 ⟨show (0 + 1) + 0 ≤ 1 by omega, show (0 + 6) + 0 ≤ 6 by omega⟩ (fun H locs hz hX hS => ?_)
  refine x_put (e1 := (xu (xu e N (.inr (4, [.int 0, .int 0, .int 0, .int 0, .int 0, .int 0]))) n (.inr (5, [.int 0, .int 0, .int 0, .int 0, .int 0, .int 0, .ref (G.1 + N)])))) (C := RX5) (T := TX5) (N := 7) hx hb hts inX5 tyX5 tyX5_ok nmX5 hown hK hz hX (xu_at he (by omega)) rfl 6 (by decide) q77 hin rfl (tyX5_ok 6 (by decide)) rfl rfl (by decide) rfl hS dX5_init_42 (fun H locs hz hX hS => ?_)
  exact x_vret hx hb hr hlk hK hN hz hX hS (by omega) (by omega) dX5_init_45
