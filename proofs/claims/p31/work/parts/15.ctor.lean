theorem hxX4_init : yX4_init.cls ≠ "java/lang/invoke/MethodHandle" ∧ yX4_init.cls ≠ "java/lang/invoke/VarHandle" ∧ (parseMethodDescriptor yX4_init.desc).map (fun d => d.parameters.length) = some 0 := by decide +kernel
set_option maxHeartbeats 4000000 in
set_option maxRecDepth 100000 in
theorem c_X4_init (l : Launch) (G : zG) (e : xM) (n N : Nat) (he : e n = some (.inr (4, [.int 0, .int 0, .int 0, .int 0, .int 0, .int 0]))) : xMet l G yX4_init cX4_init 1 1 12 0 0 n e N e N := by
  refine x_start (by decide) rfl (Nat.le_of_ble_eq_true rfl) ?_
  intro p e0 s m args below meth c ls hx hb hml hr hlk hin hts hown hK hN hz hX hS hl
  have hown : s.vm.findClass RX4 = some m.cls := hown
  refine lv_aload_n hx hb dX4_init_0 rfl (lv_at hl 0 rfl) ?_
  refine W.objInit hx hb hown (hts _ q38) (hts _ q15) (hts _ q16) rfl (by rw [hml]; exact hl.1) rfl dX4_init_1 (Nat.le_of_ble_eq_true rfl) (Nat.le_of_ble_eq_true rfl) ?_
  refine W.eq (g2 := F0 m 4 ls []) rfl ?_
  refine lv_aload_n hx hb dX4_init_4 rfl (lv_at hl 0 rfl) ?_
  refine lv_iconst (v := 0) hx hb dX4_init_5 (by decide) ?_
  refine x_put (e1 := e) (C := RX4) (T := TX4) (N := 6) hx hb hts inX4 tyX4 tyX4_ok nmX4 hown hK hz hX he rfl 0 (by decide) q39 hin rfl pfd_I rfl rfl (Nat.le_of_ble_eq_true rfl) (xu_id he) hS dX4_init_6 (fun H locs hz hX hS => ?_)
  refine lv_aload_n hx hb dX4_init_9 rfl (lv_at hl 0 rfl) ?_
  refine lv_iconst (v := 0) hx hb dX4_init_10 (by decide) ?_
  refine x_put (e1 := e) (C := RX4) (T := TX4) (N := 6) hx hb hts inX4 tyX4 tyX4_ok nmX4 hown hK hz hX he rfl 1 (by decide) q40 hin rfl pfd_I rfl rfl (Nat.le_of_ble_eq_true rfl) (xu_id he) hS dX4_init_11 (fun H locs hz hX hS => ?_)
  refine lv_aload_n hx hb dX4_init_14 rfl (lv_at hl 0 rfl) ?_
  refine lv_iconst (v := 0) hx hb dX4_init_15 (by decide) ?_
  refine x_put (e1 := e) (C := RX4) (T := TX4) (N := 6) hx hb hts inX4 tyX4 tyX4_ok nmX4 hown hK hz hX he rfl 2 (by decide) q42 hin rfl pfd_I rfl rfl (Nat.le_of_ble_eq_true rfl) (xu_id he) hS dX4_init_16 (fun H locs hz hX hS => ?_)
  refine lv_aload_n hx hb dX4_init_19 rfl (lv_at hl 0 rfl) ?_
  refine lv_iconst (v := 0) hx hb dX4_init_20 (by decide) ?_
  refine x_put (e1 := e) (C := RX4) (T := TX4) (N := 6) hx hb hts inX4 tyX4 tyX4_ok nmX4 hown hK hz hX he rfl 3 (by decide) q43 hin rfl pfd_I rfl rfl (Nat.le_of_ble_eq_true rfl) (xu_id he) hS dX4_init_21 (fun H locs hz hX hS => ?_)
  refine lv_aload_n hx hb dX4_init_24 rfl (lv_at hl 0 rfl) ?_
  refine lv_iconst (v := 0) hx hb dX4_init_25 (by decide) ?_
  refine x_put (e1 := e) (C := RX4) (T := TX4) (N := 6) hx hb hts inX4 tyX4 tyX4_ok nmX4 hown hK hz hX he rfl 4 (by decide) q44 hin rfl pfd_I rfl rfl (Nat.le_of_ble_eq_true rfl) (xu_id he) hS dX4_init_26 (fun H locs hz hX hS => ?_)
  refine lv_aload_n hx hb dX4_init_29 rfl (lv_at hl 0 rfl) ?_
  refine lv_iconst (v := 0) hx hb dX4_init_30 (by decide) ?_
  refine x_put (e1 := e) (C := RX4) (T := TX4) (N := 6) hx hb hts inX4 tyX4 tyX4_ok nmX4 hown hK hz hX he rfl 5 (by decide) q45 hin rfl pfd_I rfl rfl (Nat.le_of_ble_eq_true rfl) (xu_id he) hS dX4_init_31 (fun H locs hz hX hS => ?_)
  exact x_vret hx hb hr hlk hK hN hz hX hS (by omega) (by omega) dX4_init_34
theorem hxX3_init : yX3_init.cls ≠ "java/lang/invoke/MethodHandle" ∧ yX3_init.cls ≠ "java/lang/invoke/VarHandle" ∧ (parseMethodDescriptor yX3_init.desc).map (fun d => d.parameters.length) = some 0 := by decide +kernel
set_option maxHeartbeats 4000000 in
set_option maxRecDepth 100000 in
theorem c_X3_init (l : Launch) (G : zG) (e : xM) (n N : Nat) (he : e n = some (.inr (3, [.int 0, .int 0, .int 0, .int 0, .int 0, .int 0, .int 0, .int 0, .int 0, .int 0, .int 0]))) : xMet l G yX3_init cX3_init 1 1 12 0 0 n e N e N := by
  refine x_start (by decide) rfl (Nat.le_of_ble_eq_true rfl) ?_
  intro p e0 s m args below meth c ls hx hb hml hr hlk hin hts hown hK hN hz hX hS hl
  have hown : s.vm.findClass RX3 = some m.cls := hown
  refine lv_aload_n hx hb dX3_init_0 rfl (lv_at hl 0 rfl) ?_
  refine W.objInit hx hb hown (hts _ q98) (hts _ q15) (hts _ q16) rfl (by rw [hml]; exact hl.1) rfl dX3_init_1 (Nat.le_of_ble_eq_true rfl) (Nat.le_of_ble_eq_true rfl) ?_
  refine W.eq (g2 := F0 m 4 ls []) rfl ?_
  refine lv_aload_n hx hb dX3_init_4 rfl (lv_at hl 0 rfl) ?_
  refine lv_iconst (v := 0) hx hb dX3_init_5 (by decide) ?_
  refine x_put (e1 := e) (C := RX3) (T := TX3) (N := 11) hx hb hts inX3 tyX3 tyX3_ok nmX3 hown hK hz hX he rfl 0 (by decide) q99 hin rfl pfd_I rfl rfl (Nat.le_of_ble_eq_true rfl) (xu_id he) hS dX3_init_6 (fun H locs hz hX hS => ?_)
  refine lv_aload_n hx hb dX3_init_9 rfl (lv_at hl 0 rfl) ?_
  refine lv_iconst (v := 0) hx hb dX3_init_10 (by decide) ?_
  refine x_put (e1 := e) (C := RX3) (T := TX3) (N := 11) hx hb hts inX3 tyX3 tyX3_ok nmX3 hown hK hz hX he rfl 1 (by decide) q102 hin rfl pfd_I rfl rfl (Nat.le_of_ble_eq_true rfl) (xu_id he) hS dX3_init_11 (fun H locs hz hX hS => ?_)
  refine lv_aload_n hx hb dX3_init_14 rfl (lv_at hl 0 rfl) ?_
  refine lv_iconst (v := 0) hx hb dX3_init_15 (by decide) ?_
  refine x_put (e1 := e) (C := RX3) (T := TX3) (N := 11) hx hb hts inX3 tyX3 tyX3_ok nmX3 hown hK hz hX he rfl 2 (by decide) q104 hin rfl pfd_I rfl rfl (Nat.le_of_ble_eq_true rfl) (xu_id he) hS dX3_init_16 (fun H locs hz hX hS => ?_)
  refine lv_aload_n hx hb dX3_init_19 rfl (lv_at hl 0 rfl) ?_
  refine lv_iconst (v := 0) hx hb dX3_init_20 (by decide) ?_
  refine x_put (e1 := e) (C := RX3) (T := TX3) (N := 11) hx hb hts inX3 tyX3 tyX3_ok nmX3 hown hK hz hX he rfl 3 (by decide) q105 hin rfl pfd_I rfl rfl (Nat.le_of_ble_eq_true rfl) (xu_id he) hS dX3_init_21 (fun H locs hz hX hS => ?_)
  refine lv_aload_n hx hb dX3_init_24 rfl (lv_at hl 0 rfl) ?_
  refine lv_iconst (v := 0) hx hb dX3_init_25 (by decide) ?_
  refine x_put (e1 := e) (C := RX3) (T := TX3) (N := 11) hx hb hts inX3 tyX3 tyX3_ok nmX3 hown hK hz hX he rfl 4 (by decide) q106 hin rfl pfd_I rfl rfl (Nat.le_of_ble_eq_true rfl) (xu_id he) hS dX3_init_26 (fun H locs hz hX hS => ?_)
  refine lv_aload_n hx hb dX3_init_29 rfl (lv_at hl 0 rfl) ?_
  refine lv_iconst (v := 0) hx hb dX3_init_30 (by decide) ?_
  refine x_put (e1 := e) (C := RX3) (T := TX3) (N := 11) hx hb hts inX3 tyX3 tyX3_ok nmX3 hown hK hz hX he rfl 5 (by decide) q108 hin rfl pfd_I rfl rfl (Nat.le_of_ble_eq_true rfl) (xu_id he) hS dX3_init_31 (fun H locs hz hX hS => ?_)
  refine lv_aload_n hx hb dX3_init_34 rfl (lv_at hl 0 rfl) ?_
  refine lv_iconst (v := 0) hx hb dX3_init_35 (by decide) ?_
  refine x_put (e1 := e) (C := RX3) (T := TX3) (N := 11) hx hb hts inX3 tyX3 tyX3_ok nmX3 hown hK hz hX he rfl 6 (by decide) q110 hin rfl pfd_I rfl rfl (Nat.le_of_ble_eq_true rfl) (xu_id he) hS dX3_init_36 (fun H locs hz hX hS => ?_)
  refine lv_aload_n hx hb dX3_init_39 rfl (lv_at hl 0 rfl) ?_
  refine lv_iconst (v := 0) hx hb dX3_init_40 (by decide) ?_
  refine x_put (e1 := e) (C := RX3) (T := TX3) (N := 11) hx hb hts inX3 tyX3 tyX3_ok nmX3 hown hK hz hX he rfl 7 (by decide) q113 hin rfl pfd_I rfl rfl (Nat.le_of_ble_eq_true rfl) (xu_id he) hS dX3_init_41 (fun H locs hz hX hS => ?_)
  refine lv_aload_n hx hb dX3_init_44 rfl (lv_at hl 0 rfl) ?_
  refine lv_iconst (v := 0) hx hb dX3_init_45 (by decide) ?_
  refine x_put (e1 := e) (C := RX3) (T := TX3) (N := 11) hx hb hts inX3 tyX3 tyX3_ok nmX3 hown hK hz hX he rfl 8 (by decide) q116 hin rfl pfd_I rfl rfl (Nat.le_of_ble_eq_true rfl) (xu_id he) hS dX3_init_46 (fun H locs hz hX hS => ?_)
  refine lv_aload_n hx hb dX3_init_49 rfl (lv_at hl 0 rfl) ?_
  refine lv_iconst (v := 0) hx hb dX3_init_50 (by decide) ?_
  refine x_put (e1 := e) (C := RX3) (T := TX3) (N := 11) hx hb hts inX3 tyX3 tyX3_ok nmX3 hown hK hz hX he rfl 9 (by decide) q119 hin rfl pfd_I rfl rfl (Nat.le_of_ble_eq_true rfl) (xu_id he) hS dX3_init_51 (fun H locs hz hX hS => ?_)
  refine lv_aload_n hx hb dX3_init_54 rfl (lv_at hl 0 rfl) ?_
  refine lv_iconst (v := 0) hx hb dX3_init_55 (by decide) ?_
  refine x_put (e1 := e) (C := RX3) (T := TX3) (N := 11) hx hb hts inX3 tyX3 tyX3_ok nmX3 hown hK hz hX he rfl 10 (by decide) q121 hin rfl pfd_I rfl rfl (Nat.le_of_ble_eq_true rfl) (xu_id he) hS dX3_init_56 (fun H locs hz hX hS => ?_)
  exact x_vret hx hb hr hlk hK hN hz hX hS (by omega) (by omega) dX3_init_59
theorem hxX5_init : yX5_init.cls ≠ "java/lang/invoke/MethodHandle" ∧ yX5_init.cls ≠ "java/lang/invoke/VarHandle" ∧ (parseMethodDescriptor yX5_init.desc).map (fun d => d.parameters.length) = some 0 := by decide +kernel
set_option maxHeartbeats 4000000 in
set_option maxRecDepth 100000 in
theorem c_X5_init (l : Launch) (G : zG) (e : xM) (n N : Nat) (he : e n = some (.inr (5, [.int 0, .int 0, .int 0, .int 0, .int 0, .int 0, .null]))) (hne : n ≠ N) : xMet l G yX5_init cX5_init 1 2 32 1 6 n e N (xu (xu e N (.inr (4, [.int 0, .int 0, .int 0, .int 0, .int 0, .int 0]))) n (.inr (5, [.int 0, .int 0, .int 0, .int 0, .int 0, .int 0, .ref (G.1 + N)]))) (N + 1) := by
  refine x_start (by decide) rfl (Nat.le_of_ble_eq_true rfl) ?_
  intro p e0 s m args below meth c ls hx hb hml hr hlk hin hts hown hK hN hz hX hS hl
  have hown : s.vm.findClass RX5 = some m.cls := hown
  refine lv_aload_n hx hb dX5_init_0 rfl (lv_at hl 0 rfl) ?_
  refine W.objInit hx hb hown (hts _ q32) (hts _ q15) (hts _ q16) rfl (by rw [hml]; exact hl.1) rfl dX5_init_1 (Nat.le_of_ble_eq_true rfl) (Nat.le_of_ble_eq_true rfl) ?_
  refine W.eq (g2 := F0 m 4 ls []) rfl ?_
  refine lv_aload_n hx hb dX5_init_4 rfl (lv_at hl 0 rfl) ?_
  refine lv_iconst (v := 0) hx hb dX5_init_5 (by decide) ?_
  refine x_put (e1 := e) (C := RX5) (T := TX5) (N := 7) hx hb hts inX5 tyX5 tyX5_ok nmX5 hown hK hz hX he rfl 0 (by decide) q59 hin rfl pfd_I rfl rfl (Nat.le_of_ble_eq_true rfl) (xu_id he) hS dX5_init_6 (fun H locs hz hX hS => ?_)
  refine lv_aload_n hx hb dX5_init_9 rfl (lv_at hl 0 rfl) ?_
  refine lv_iconst (v := 0) hx hb dX5_init_10 (by decide) ?_
  refine x_put (e1 := e) (C := RX5) (T := TX5) (N := 7) hx hb hts inX5 tyX5 tyX5_ok nmX5 hown hK hz hX he rfl 1 (by decide) q62 hin rfl pfd_I rfl rfl (Nat.le_of_ble_eq_true rfl) (xu_id he) hS dX5_init_11 (fun H locs hz hX hS => ?_)
  refine lv_aload_n hx hb dX5_init_14 rfl (lv_at hl 0 rfl) ?_
  refine lv_iconst (v := 0) hx hb dX5_init_15 (by decide) ?_
  refine x_put (e1 := e) (C := RX5) (T := TX5) (N := 7) hx hb hts inX5 tyX5 tyX5_ok nmX5 hown hK hz hX he rfl 2 (by decide) q65 hin rfl pfd_I rfl rfl (Nat.le_of_ble_eq_true rfl) (xu_id he) hS dX5_init_16 (fun H locs hz hX hS => ?_)
  refine lv_aload_n hx hb dX5_init_19 rfl (lv_at hl 0 rfl) ?_
  refine lv_iconst (v := 0) hx hb dX5_init_20 (by decide) ?_
  refine x_put (e1 := e) (C := RX5) (T := TX5) (N := 7) hx hb hts inX5 tyX5 tyX5_ok nmX5 hown hK hz hX he rfl 3 (by decide) q68 hin rfl pfd_I rfl rfl (Nat.le_of_ble_eq_true rfl) (xu_id he) hS dX5_init_21 (fun H locs hz hX hS => ?_)
  refine lv_aload_n hx hb dX5_init_24 rfl (lv_at hl 0 rfl) ?_
  refine lv_iconst (v := 0) hx hb dX5_init_25 (by decide) ?_
  refine x_put (e1 := e) (C := RX5) (T := TX5) (N := 7) hx hb hts inX5 tyX5 tyX5_ok nmX5 hown hK hz hX he rfl 4 (by decide) q71 hin rfl pfd_I rfl rfl (Nat.le_of_ble_eq_true rfl) (xu_id he) hS dX5_init_26 (fun H locs hz hX hS => ?_)
  refine lv_aload_n hx hb dX5_init_29 rfl (lv_at hl 0 rfl) ?_
  refine lv_iconst (v := 0) hx hb dX5_init_30 (by decide) ?_
  refine x_put (e1 := e) (C := RX5) (T := TX5) (N := 7) hx hb hts inX5 tyX5 tyX5_ok nmX5 hown hK hz hX he rfl 5 (by decide) q74 hin rfl pfd_I rfl rfl (Nat.le_of_ble_eq_true rfl) (xu_id he) hS dX5_init_31 (fun H locs hz hX hS => ?_)
  refine lv_aload_n hx hb dX5_init_34 rfl (lv_at hl 0 rfl) ?_
  refine x_new (ci := 4) (fs := [.int 0, .int 0, .int 0, .int 0, .int 0, .int 0]) (C := RX4) (T := TX4) (N := 6) hx hb hts inX4 tyX4 tyX4_ok hown q33 q34 q4 hK hz hX hS rfl (fun j hj => by rcases (show j = 0 ∨ j = 1 ∨ j = 2 ∨ j = 3 ∨ j = 4 ∨ j = 5 by omega) with rfl | rfl | rfl | rfl | rfl | rfl <;> rfl) (show 0 + 1 ≤ 1 by omega) (show 0 + 6 ≤ 6 by omega) dX5_init_35 (fun H hz hX hS => ?_)
  refine lv_dup hx hb dX5_init_38 rfl ?_
  refine x_callIN hx hb hml hown hts hl hK hN hz hX hS (c_X4_init l G (xu e N (.inr (4, [.int 0, .int 0, .int 0, .int 0, .int 0, .int 0]))) N (N + 1) xu_same) q37 q4 hN.2.1 q36 rfl hxX4_init ⟨Nat.le_of_ble_eq_true rfl, Nat.le_of_ble_eq_true rfl⟩ rfl (Nat.le_of_ble_eq_true rfl) dX5_init_39 ⟨show (0 + 1) + 0 ≤ 1 by omega, show (0 + 6) + 0 ≤ 6 by omega⟩ (fun H locs hz hX hS => ?_)
  refine x_put (e1 := (xu (xu e N (.inr (4, [.int 0, .int 0, .int 0, .int 0, .int 0, .int 0]))) n (.inr (5, [.int 0, .int 0, .int 0, .int 0, .int 0, .int 0, .ref (G.1 + N)])))) (C := RX5) (T := TX5) (N := 7) hx hb hts inX5 tyX5 tyX5_ok nmX5 hown hK hz hX (xu_at he (by omega)) rfl 6 (by decide) q77 hin rfl (tyX5_ok 6 (by decide)) rfl rfl (Nat.le_of_ble_eq_true rfl) rfl hS dX5_init_42 (fun H locs hz hX hS => ?_)
  exact x_vret hx hb hr hlk hK hN hz hX hS (by omega) (by omega) dX5_init_45
def μB (r : Nat) : Nat → Int32 := if r = 0 then (fun k => match k with | 1 => 5000 | 2 => 1017370378 | _ => 0) else fun _ => 0
abbrev bkF (G : zG) (B : Nat) : List Value := [.int 0, .int 5000, .float 1017370378, .int 0, .int 0, .ref (G.1 + (B + 1)), .ref (G.1 + (B + 1 + 1))]
def aT (G : zG) (B i : Nat) : Nat → Option Nat := fun k => if i ≤ k ∧ k < 6 then none else some (G.1 + (B + 1 + 2 + 2 * k))
def aI (G : zG) (B j : Nat) : Nat → Option Nat := fun k => if j ≤ k ∧ k < 24 then none else some (G.1 + (B + 1 + 1 + 13 + k))
def eL (G : zG) (e : xM) (B i j : Nat) : xM := fun n => if n = B then some (.inr (1, bkF G B)) else if n = B + 1 then some (.inl (G.2.2.1, zRows 6 (aT G B i))) else if n = B + 1 + 1 then some (.inl (G.2.2.2.1, zRows 24 (aI G B j))) else if B + 3 ≤ n ∧ n < B + 3 + 2 * i + j then some (zE G (zkb (n - B)) n (fun _ => 0)) else e n
def eB (G : zG) (e : xM) (B : Nat) : xM := fun n => if B ≤ n ∧ n < B + 39 then some (zE G (zkb (n - B)) n (μB (n - B))) else e n
theorem eL_B {G : zG} {e : xM} {B i j : Nat} : eL G e B i j B = some (.inr (1, bkF G B)) := by unfold eL; rw [if_pos rfl]
theorem eL_1 {G : zG} {e : xM} {B i j : Nat} : eL G e B i j (B + 1) = some (.inl (G.2.2.1, zRows 6 (aT G B i))) := by unfold eL; rw [if_neg (by omega), if_pos rfl]
theorem eL_2 {G : zG} {e : xM} {B i j : Nat} : eL G e B i j (B + 1 + 1) = some (.inl (G.2.2.2.1, zRows 24 (aI G B j))) := by unfold eL; rw [if_neg (by omega), if_neg (by omega), if_pos rfl]
theorem eL_c {G : zG} {e : xM} {B i j n : Nat} (h1 : B + 3 ≤ n) (h2 : n < B + 3 + 2 * i + j) : eL G e B i j n = some (zE G (zkb (n - B)) n (fun _ => 0)) := by unfold eL; rw [if_neg (by omega), if_neg (by omega), if_neg (by omega), if_pos ⟨h1, h2⟩]
theorem eL_o {G : zG} {e : xM} {B i j n : Nat} (h : n < B ∨ B + 3 + 2 * i + j ≤ n ∧ B + 3 ≤ n) : eL G e B i j n = e n := by unfold eL; rw [if_neg (by omega), if_neg (by omega), if_neg (by omega), if_neg (by omega)]
theorem eL_cases {G : zG} {e : xM} {B i j n : Nat} {y : va_E} (h : eL G e B i j n = some y) : (n = B ∧ y = .inr (1, bkF G B)) ∨ (n = B + 1 ∧ y = .inl (G.2.2.1, zRows 6 (aT G B i))) ∨ (n = B + 1 + 1 ∧ y = .inl (G.2.2.2.1, zRows 24 (aI G B j))) ∨ (B + 3 ≤ n ∧ n < B + 3 + 2 * i + j ∧ y = zE G (zkb (n - B)) n (fun _ => 0)) ∨ ((n < B ∨ B + 3 + 2 * i + j ≤ n) ∧ e n = some y) := by
  unfold eL at h
  by_cases h1 : n = B
  · rw [if_pos h1] at h; exact Or.inl ⟨h1, (Option.some.inj h).symm⟩
  · rw [if_neg h1] at h
    by_cases h2 : n = B + 1
    · rw [if_pos h2] at h; exact Or.inr (Or.inl ⟨h2, (Option.some.inj h).symm⟩)
    · rw [if_neg h2] at h
      by_cases h3 : n = B + 1 + 1
      · rw [if_pos h3] at h; exact Or.inr (Or.inr (Or.inl ⟨h3, (Option.some.inj h).symm⟩))
      · rw [if_neg h3] at h
        by_cases h4 : B + 3 ≤ n ∧ n < B + 3 + 2 * i + j
        · rw [if_pos h4] at h; exact Or.inr (Or.inr (Or.inr (Or.inl ⟨h4.1, h4.2, (Option.some.inj h).symm⟩)))
        · rw [if_neg h4] at h; exact Or.inr (Or.inr (Or.inr (Or.inr ⟨by omega, h⟩)))
theorem eL_start {G : zG} {e : xM} {B : Nat} {H : Heap} (h : zX G (xu (xu (xu e B (.inr (1, bkF G B))) (B + 1) (.inl (G.2.2.1, zRows 6 (fun _ => none)))) (B + 1 + 1) (.inl (G.2.2.2.1, zRows 24 (fun _ => none)))) H) : zX G (eL G e B 0 0) H := by
  refine h.re (fun n y hy => ?_)
  rcases eL_cases hy with ⟨rfl, rfl⟩ | ⟨rfl, rfl⟩ | ⟨rfl, rfl⟩ | ⟨h1, h2, -⟩ | ⟨h1, h2⟩
  · exact ⟨_, xu_at (xu_at xu_same (by omega)) (by omega), xeqv.rf⟩
  · exact ⟨_, xu_at xu_same (by omega), xeqv.rows (fun k hk => (if_pos ⟨Nat.zero_le k, hk⟩).symm)⟩
  · exact ⟨_, xu_same, xeqv.rows (fun k hk => (if_pos ⟨Nat.zero_le k, hk⟩).symm)⟩
  · omega
  · by_cases a1 : n = B + 1 + 1
    · omega
    · exact ⟨y, xu_at (xu_at (xu_at h2 (by omega)) (by omega)) a1, xeqv.rf⟩
theorem zkb_t {i : Nat} (hi : i < 6) : zkb (3 + 2 * i) = 4 := by
  have k : ∀ i, i < 6 → zkb (3 + 2 * i) = 4 := by decide
  exact k i hi
theorem zkb_s {i : Nat} (hi : i < 6) : zkb (4 + 2 * i) = 5 := by
  have k : ∀ i, i < 6 → zkb (4 + 2 * i) = 5 := by decide
  exact k i hi
theorem zkb_i {j : Nat} (hj : j < 24) : zkb (15 + j) = 6 := by
  have k : ∀ j, j < 24 → zkb (15 + j) = 6 := by decide
  exact k j hj
theorem eL_stepT {G : zG} {e : xM} {B i : Nat} {H : Heap} (hi : i < 6) (h : zX G (xu (xu (xu (xu (eL G e B i 0) (B + 3 + 2 * i) (.inr (5, [.int 0, .int 0, .int 0, .int 0, .int 0, .int 0, .null]))) (B + 3 + 2 * i + 1) (.inr (4, [.int 0, .int 0, .int 0, .int 0, .int 0, .int 0]))) (B + 3 + 2 * i) (.inr (5, [.int 0, .int 0, .int 0, .int 0, .int 0, .int 0, .ref (G.1 + (B + 3 + 2 * i + 1))]))) (B + 1) (.inl (G.2.2.1, zRows 6 (va_up (aT G B i) (nI i).toNatClampNeg (some (G.1 + (B + 3 + 2 * i)))))) ) H) : zX G (eL G e B (i + 1) 0) H := by
  refine h.re (fun n y hy => ?_)
  rw [nI_clamp (by omega : i < 2 ^ 31)]
  rcases eL_cases hy with ⟨rfl, rfl⟩ | ⟨rfl, rfl⟩ | ⟨rfl, rfl⟩ | ⟨h1, h2, rfl⟩ | ⟨h1, h2⟩
  · exact ⟨_, xu_at (xu_at (xu_at (xu_at eL_B (by omega)) (by omega)) (by omega)) (by omega), xeqv.rf⟩
  · refine ⟨_, xu_same, xeqv.rows (fun k hk => ?_)⟩
    unfold va_up aT
    by_cases hki : k = i
    · subst hki
      rw [if_pos rfl, if_neg (by omega)]
    · rw [if_neg hki]
      by_cases h3 : i ≤ k ∧ k < 6
      · rw [if_pos h3, if_pos (by omega)]
      · rw [if_neg h3, if_neg (by omega)]
  · exact ⟨_, xu_at (xu_at (xu_at (xu_at eL_2 (by omega)) (by omega)) (by omega)) (by omega), xeqv.rf⟩
  · by_cases a1 : n = B + 3 + 2 * i
    · subst a1
      refine ⟨_, xu_at xu_same (by omega), ?_⟩
      have e1 : B + 3 + 2 * i - B = 3 + 2 * i := by omega
      rw [e1, zkb_t hi]
      exact xeqv.rf
    · by_cases a2 : n = B + 3 + 2 * i + 1
      · subst a2
        refine ⟨_, xu_at (xu_at xu_same (by omega)) (by omega), ?_⟩
        have e1 : B + 3 + 2 * i + 1 - B = 4 + 2 * i := by omega
        rw [e1, zkb_s hi]
        exact xeqv.rf
      · exact ⟨_, xu_at (xu_at (xu_at (xu_at (eL_c h1 (by omega)) (by omega)) (by omega)) (by omega)) (by omega), xeqv.rf⟩
  · refine ⟨y, xu_at (xu_at (xu_at (xu_at ((eL_o (by omega)).trans h2) (by omega)) (by omega)) (by omega)) (by omega), xeqv.rf⟩
theorem eL_stepI {G : zG} {e : xM} {B j : Nat} {H : Heap} (hj : j < 24) (h : zX G (xu (xu (eL G e B 6 j) (B + 15 + j) (.inr (3, [.int 0, .int 0, .int 0, .int 0, .int 0, .int 0, .int 0, .int 0, .int 0, .int 0, .int 0]))) (B + 1 + 1) (.inl (G.2.2.2.1, zRows 24 (va_up (aI G B j) (nI j).toNatClampNeg (some (G.1 + (B + 15 + j)))))) ) H) : zX G (eL G e B 6 (j + 1)) H := by
  refine h.re (fun n y hy => ?_)
  rw [nI_clamp (by omega : j < 2 ^ 31)]
  rcases eL_cases hy with ⟨rfl, rfl⟩ | ⟨rfl, rfl⟩ | ⟨rfl, rfl⟩ | ⟨h1, h2, rfl⟩ | ⟨h1, h2⟩
  · exact ⟨_, xu_at (xu_at eL_B (by omega)) (by omega), xeqv.rf⟩
  · exact ⟨_, xu_at (xu_at eL_1 (by omega)) (by omega), xeqv.rf⟩
  · refine ⟨_, xu_same, xeqv.rows (fun k hk => ?_)⟩
    unfold va_up aI
    by_cases hki : k = j
    · subst hki
      rw [if_pos rfl, if_neg (by omega)]
    · rw [if_neg hki]
      by_cases h3 : j ≤ k ∧ k < 24
      · rw [if_pos h3, if_pos (by omega)]
      · rw [if_neg h3, if_neg (by omega)]
  · by_cases a1 : n = B + 15 + j
    · subst a1
      refine ⟨_, xu_at xu_same (by omega), ?_⟩
      have e1 : B + 15 + j - B = 15 + j := by omega
      rw [e1, zkb_i hj]
      exact xeqv.rf
    · exact ⟨_, xu_at (xu_at (eL_c h1 (by omega)) (by omega)) (by omega), xeqv.rf⟩
  · refine ⟨y, xu_at (xu_at ((eL_o (by omega)).trans h2) (by omega)) (by omega), xeqv.rf⟩
theorem eL_end {G : zG} {e : xM} {B : Nat} {H : Heap} (h : zX G (eL G e B 6 24) H) : zX G (eB G e B) H := by
  refine h.re (fun n y hy => ?_)
  unfold eB at hy
  by_cases h0 : B ≤ n ∧ n < B + 39
  · rw [if_pos h0] at hy
    cases hy
    by_cases h1 : n = B
    · subst h1
      refine ⟨_, eL_B, ?_⟩
      rw [Nat.sub_self]
      exact xeqv.rf
    · by_cases h2 : n = B + 1
      · subst h2
        refine ⟨_, eL_1, ?_⟩
        rw [show B + 1 - B = 1 by omega]
        exact xeqv.rows (fun k hk => if_neg (by omega))
      · by_cases h3 : n = B + 1 + 1
        · subst h3
          refine ⟨_, eL_2, ?_⟩
          rw [show B + 1 + 1 - B = 2 by omega]
          exact xeqv.rows (fun k hk => if_neg (by omega))
        · refine ⟨_, eL_c (by omega) (by omega), ?_⟩
          rw [show μB (n - B) = fun _ => 0 from if_neg (by omega)]
          exact xeqv.rf
  · rw [if_neg h0] at hy
    exact ⟨y, (eL_o (by omega)).trans hy, xeqv.rf⟩
theorem hxX1_init : yX1_init.cls ≠ "java/lang/invoke/MethodHandle" ∧ yX1_init.cls ≠ "java/lang/invoke/VarHandle" ∧ (parseMethodDescriptor yX1_init.desc).map (fun d => d.parameters.length) = some 0 := by decide +kernel
set_option maxHeartbeats 4000000 in
set_option maxRecDepth 100000 in
theorem c_X1_init (l : Launch) (G : zG) (e : xM) (B : Nat) (he : e B = some (.inr (1, [.int 0, .int 0, .float 0, .int 0, .int 0, .null, .null]))) : xMet l G yX1_init cX1_init 2 3 52 38 372 B e (B + 1) (eB G e B) (B + 39) := by
  refine x_start (by decide) rfl (Nat.le_of_ble_eq_true rfl) ?_
  intro p e0 s m args below meth c ls hx hb hml hr hlk hin hts hown hK hN hz hX hS hl
  have hown : s.vm.findClass RX1 = some m.cls := hown
  have loop2 : ∀ (k j : Nat), j + k = 24 → ∀ (H : Heap) (locs : List Loc) (ls : Array Slot), H.size = G.1 + (B + 15 + j) → zX G (eL G e B 6 j) H → va_S (zA G) s.heap H locs → lv_has ls 2 [(1, .int (nI j)), (0, .ref (G.1 + B))] → W p l e0 { frames := 3, cells := 38, slots := 372, locals := 52 } s m args below meth c H locs (14 + j) (108 + 11 * j) (MQ below (va_Qv (fun _ : Unit => True) (fun _ t => zI G (eB G e B) (B + 39) t) (zA G)) args s 38 372 (zA G)) (F0 m 82 ls []) := by
    intro k
    induction k with
    | zero =>
      intro j hj H locs ls hz hX hS hl
      have hj : j = 24 := by omega
      subst hj
      refine lv_iload_n hx hb dX1_init_82 rfl (lv_at hl 0 rfl) ?_
      refine lv_aload_n hx hb dX1_init_83 rfl (lv_at hl 1 rfl) ?_
      refine x_get (C := RX1) (T := TX1) (N := 7) hx hb hts inX1 hown hK hX eL_B rfl 6 (by decide) q157 (v := .ref (G.1 + (B + 1 + 1))) rfl dX1_init_84 ?_
      refine x_alen (v := 24) hx hb hK hX 1 eL_2 rfl rfl dX1_init_87 ?_
      refine lv_icmp_ge (tgt := 110) hx hb dX1_init_88 (by decide) (fun c_1 => ?_) (fun c_1 => ?_)
      · have hX := eL_end hX
        have hz : H.size = G.1 + (B + 39) := by omega
        exact x_vret hx hb hr hlk hK hN hz hX hS (by omega) (by omega) dX1_init_110
      · exact absurd (show nI 24 ≤ nI 24 from nI_le (Nat.le_refl _) (by decide)) c_1
    | succ k ih =>
      intro j hj H locs ls hz hX hS hl
      refine lv_iload_n hx hb dX1_init_82 rfl (lv_at hl 0 rfl) ?_
      refine lv_aload_n hx hb dX1_init_83 rfl (lv_at hl 1 rfl) ?_
      refine x_get (C := RX1) (T := TX1) (N := 7) hx hb hts inX1 hown hK hX eL_B rfl 6 (by decide) q157 (v := .ref (G.1 + (B + 1 + 1))) rfl dX1_init_84 ?_
      refine x_alen (v := 24) hx hb hK hX 1 eL_2 rfl rfl dX1_init_87 ?_
      refine lv_icmp_ge (tgt := 110) hx hb dX1_init_88 (by decide) (fun c_1 => ?_) (fun c_1 => ?_)
      · exact absurd (show nI 24 ≤ nI j from c_1) (nI_ge (by omega) (by decide))
      · refine lv_aload_n hx hb dX1_init_91 rfl (lv_at hl 1 rfl) ?_
        refine x_get (C := RX1) (T := TX1) (N := 7) hx hb hts inX1 hown hK hX eL_B rfl 6 (by decide) q157 (v := .ref (G.1 + (B + 1 + 1))) rfl dX1_init_92 ?_
        refine lv_iload_n hx hb dX1_init_95 rfl (lv_at hl 0 rfl) ?_
        refine x_new (ci := 3) (fs := [.int 0, .int 0, .int 0, .int 0, .int 0, .int 0, .int 0, .int 0, .int 0, .int 0, .int 0]) (C := RX3) (T := TX3) (N := 11) hx hb hts inX3 tyX3 tyX3_ok hown q26 q94 q5 hK hz hX hS rfl (fun j hj => by rcases (show j = 0 ∨ j = 1 ∨ j = 2 ∨ j = 3 ∨ j = 4 ∨ j = 5 ∨ j = 6 ∨ j = 7 ∨ j = 8 ∨ j = 9 ∨ j = 10 by omega) with rfl | rfl | rfl | rfl | rfl | rfl | rfl | rfl | rfl | rfl | rfl <;> rfl) (show (14 + j) + 1 ≤ 38 by omega) (show (108 + 11 * j) + 11 ≤ 372 by omega) dX1_init_96 (fun H hz hX hS => ?_)
        refine lv_dup hx hb dX1_init_99 rfl ?_
        refine x_callIN hx hb hml hown hts hl hK hN hz hX hS (c_X3_init l G (xu (eL G e B 6 j) (B + 15 + j) (.inr (3, [.int 0, .int 0, .int 0, .int 0, .int 0, .int 0, .int 0, .int 0, .int 0, .int 0, .int 0]))) (B + 15 + j) ((B + 15 + j) + 1) xu_same) q97 q5 hN.2.2.1 q96 rfl hxX3_init ⟨Nat.le_of_ble_eq_true rfl, Nat.le_of_ble_eq_true rfl⟩ rfl (Nat.le_of_ble_eq_true rfl) dX1_init_100 ⟨show ((14 + j) + 1) + 0 ≤ 38 by omega, show ((108 + 11 * j) + 11) + 0 ≤ 372 by omega⟩ (fun H locs hz hX hS => ?_)
        refine x_ast (e1 := _) hx hb hK hz hX hS 1 (xu_at eL_2 (by omega)) rfl xu_same rfl (vp_in_nI (by omega) (by decide)) rfl dX1_init_103 (fun H locs hz hX hS => ?_)
        refine lv_iinc (v := (nI (j + 1))) (lv' := [(1, .int (nI (j + 1))), (0, .ref (G.1 + B))]) hx hb dX1_init_104 hl (k := 0) rfl (nI_1 _) (by decide) rfl (fun ls hl => ?_)
        refine lv_goto (tgt := 82) hx hb dX1_init_107 (by decide) ?_
        have hX := eL_stepI (by omega) hX
        have hz : _ = G.1 + (B + 15 + (j + 1)) := hz.trans (by omega)
        exact ih (j + 1) (by omega) _ _ _ hz hX hS (lv_sub hl [0, 1] rfl)
  have loop1 : ∀ (k i : Nat), i + k = 6 → ∀ (H : Heap) (locs : List Loc) (ls : Array Slot), H.size = G.1 + (B + 3 + 2 * i) → zX G (eL G e B i 0) H → va_S (zA G) s.heap H locs → lv_has ls 2 [(1, .int (nI i)), (0, .ref (G.1 + B))] → W p l e0 { frames := 3, cells := 38, slots := 372, locals := 52 } s m args below meth c H locs (2 + 2 * i) (30 + 13 * i) (MQ below (va_Qv (fun _ : Unit => True) (fun _ t => zI G (eB G e B) (B + 39) t) (zA G)) args s 38 372 (zA G)) (F0 m 52 ls []) := by
    intro k
    induction k with
    | zero =>
      intro i hi H locs ls hz hX hS hl
      have hi : i = 6 := by omega
      subst hi
      refine lv_iload_n hx hb dX1_init_52 rfl (lv_at hl 0 rfl) ?_
      refine lv_aload_n hx hb dX1_init_53 rfl (lv_at hl 1 rfl) ?_
      refine x_get (C := RX1) (T := TX1) (N := 7) hx hb hts inX1 hown hK hX eL_B rfl 5 (by decide) q156 (v := .ref (G.1 + (B + 1))) rfl dX1_init_54 ?_
      refine x_alen (v := 6) hx hb hK hX 0 eL_1 rfl rfl dX1_init_57 ?_
      refine lv_icmp_ge (tgt := 80) hx hb dX1_init_58 (by decide) (fun c_1 => ?_) (fun c_1 => ?_)
      · refine lv_iconst (v := 0) hx hb dX1_init_80 (by decide) ?_
        refine lv_istore_n (lv' := [(1, .int 0), (0, .ref (G.1 + B))]) hx hb dX1_init_81 rfl hl (by decide) rfl (fun ls hl => ?_)
        have hz : _ = G.1 + (B + 15 + 0) := hz.trans (by omega)
        exact loop2 24 0 (by omega) _ _ _ hz hX hS (lv_sub hl [0, 1] rfl)
      · exact absurd (show nI 6 ≤ nI 6 from nI_le (Nat.le_refl _) (by decide)) c_1
    | succ k ih =>
      intro i hi H locs ls hz hX hS hl
      refine lv_iload_n hx hb dX1_init_52 rfl (lv_at hl 0 rfl) ?_
      refine lv_aload_n hx hb dX1_init_53 rfl (lv_at hl 1 rfl) ?_
      refine x_get (C := RX1) (T := TX1) (N := 7) hx hb hts inX1 hown hK hX eL_B rfl 5 (by decide) q156 (v := .ref (G.1 + (B + 1))) rfl dX1_init_54 ?_
      refine x_alen (v := 6) hx hb hK hX 0 eL_1 rfl rfl dX1_init_57 ?_
      refine lv_icmp_ge (tgt := 80) hx hb dX1_init_58 (by decide) (fun c_1 => ?_) (fun c_1 => ?_)
      · exact absurd (show nI 6 ≤ nI i from c_1) (nI_ge (by omega) (by decide))
      · refine lv_aload_n hx hb dX1_init_61 rfl (lv_at hl 1 rfl) ?_
        refine x_get (C := RX1) (T := TX1) (N := 7) hx hb hts inX1 hown hK hX eL_B rfl 5 (by decide) q156 (v := .ref (G.1 + (B + 1))) rfl dX1_init_62 ?_
        refine lv_iload_n hx hb dX1_init_65 rfl (lv_at hl 0 rfl) ?_
        refine x_new (ci := 5) (fs := [.int 0, .int 0, .int 0, .int 0, .int 0, .int 0, .null]) (C := RX5) (T := TX5) (N := 7) hx hb hts inX5 tyX5 tyX5_ok hown q24 q28 q3 hK hz hX hS rfl (fun j hj => by rcases (show j = 0 ∨ j = 1 ∨ j = 2 ∨ j = 3 ∨ j = 4 ∨ j = 5 ∨ j = 6 by omega) with rfl | rfl | rfl | rfl | rfl | rfl | rfl <;> rfl) (show (2 + 2 * i) + 1 ≤ 38 by omega) (show (30 + 13 * i) + 7 ≤ 372 by omega) dX1_init_66 (fun H hz hX hS => ?_)
        refine lv_dup hx hb dX1_init_69 rfl ?_
        refine x_callIN hx hb hml hown hts hl hK hN hz hX hS (c_X5_init l G (xu (eL G e B i 0) (B + 3 + 2 * i) (.inr (5, [.int 0, .int 0, .int 0, .int 0, .int 0, .int 0, .null]))) (B + 3 + 2 * i) ((B + 3 + 2 * i) + 1) xu_same (by omega)) q31 q3 hN.1 q30 rfl hxX5_init ⟨Nat.le_of_ble_eq_true rfl, Nat.le_of_ble_eq_true rfl⟩ rfl (Nat.le_of_ble_eq_true rfl) dX1_init_70 ⟨show ((2 + 2 * i) + 1) + 1 ≤ 38 by omega, show ((30 + 13 * i) + 7) + 6 ≤ 372 by omega⟩ (fun H locs hz hX hS => ?_)
        refine x_ast (e1 := _) hx hb hK hz hX hS 0 (xu_at (xu_at (xu_at eL_1 (by omega)) (by omega)) (by omega)) rfl xu_same rfl (vp_in_nI (by omega) (by decide)) rfl dX1_init_73 (fun H locs hz hX hS => ?_)
        refine lv_iinc (v := (nI (i + 1))) (lv' := [(1, .int (nI (i + 1))), (0, .ref (G.1 + B))]) hx hb dX1_init_74 hl (k := 0) rfl (nI_1 _) (by decide) rfl (fun ls hl => ?_)
        refine lv_goto (tgt := 52) hx hb dX1_init_77 (by decide) ?_
        have hX := eL_stepT (by omega) hX
        have hz : _ = G.1 + (B + 3 + 2 * (i + 1)) := hz.trans (by omega)
        exact ih (i + 1) (by omega) _ _ _ hz hX hS (lv_sub hl [0, 1] rfl)
  refine lv_aload_n hx hb dX1_init_0 rfl (lv_at hl 0 rfl) ?_
  refine W.objInit hx hb hown (hts _ q22) (hts _ q15) (hts _ q16) rfl (by rw [hml]; exact hl.1) rfl dX1_init_1 (Nat.le_of_ble_eq_true rfl) (Nat.le_of_ble_eq_true rfl) ?_
  refine W.eq (g2 := F0 m 4 ls []) rfl ?_
  refine lv_aload_n hx hb dX1_init_4 rfl (lv_at hl 0 rfl) ?_
  refine lv_iconst (v := 0) hx hb dX1_init_5 (by decide) ?_
  refine x_put (e1 := e) (C := RX1) (T := TX1) (N := 7) hx hb hts inX1 tyX1 tyX1_ok nmX1 hown hK hz hX he rfl 0 (by decide) q146 hin rfl pfd_I rfl rfl (Nat.le_of_ble_eq_true rfl) (xu_id he) hS dX1_init_6 (fun H locs hz hX hS => ?_)
  refine lv_aload_n hx hb dX1_init_9 rfl (lv_at hl 0 rfl) ?_
  refine lv_sipush (v := 5000) hx hb dX1_init_10 (by decide) ?_
  refine x_put (e1 := (xu e B (.inr (1, [.int 0, .int 5000, .float 0, .int 0, .int 0, .null, .null])))) (C := RX1) (T := TX1) (N := 7) hx hb hts inX1 tyX1 tyX1_ok nmX1 hown hK hz hX he rfl 1 (by decide) q148 hin rfl pfd_I rfl rfl (Nat.le_of_ble_eq_true rfl) rfl hS dX1_init_13 (fun H locs hz hX hS => ?_)
  refine lv_aload_n hx hb dX1_init_16 rfl (lv_at hl 0 rfl) ?_
  refine lv_ldcf hx hb hown (hts _ q23) dX1_init_17 ?_
  refine x_put (e1 := (xu e B (.inr (1, [.int 0, .int 5000, .float 1017370378, .int 0, .int 0, .null, .null])))) (C := RX1) (T := TX1) (N := 7) hx hb hts inX1 tyX1 tyX1_ok nmX1 hown hK hz hX xu_same rfl 2 (by decide) q150 hin rfl pfd_F rfl rfl (Nat.le_of_ble_eq_true rfl) xu_xu hS dX1_init_19 (fun H locs hz hX hS => ?_)
  refine lv_aload_n hx hb dX1_init_22 rfl (lv_at hl 0 rfl) ?_
  refine lv_iconst (v := 0) hx hb dX1_init_23 (by decide) ?_
  refine x_put (e1 := (xu e B (.inr (1, [.int 0, .int 5000, .float 1017370378, .int 0, .int 0, .null, .null])))) (C := RX1) (T := TX1) (N := 7) hx hb hts inX1 tyX1 tyX1_ok nmX1 hown hK hz hX xu_same rfl 3 (by decide) q152 hin rfl pfd_I rfl rfl (Nat.le_of_ble_eq_true rfl) (xu_id xu_same) hS dX1_init_24 (fun H locs hz hX hS => ?_)
  refine lv_aload_n hx hb dX1_init_27 rfl (lv_at hl 0 rfl) ?_
  refine lv_iconst (v := 0) hx hb dX1_init_28 (by decide) ?_
  refine x_put (e1 := (xu e B (.inr (1, [.int 0, .int 5000, .float 1017370378, .int 0, .int 0, .null, .null])))) (C := RX1) (T := TX1) (N := 7) hx hb hts inX1 tyX1 tyX1_ok nmX1 hown hK hz hX xu_same rfl 4 (by decide) q154 hin rfl pfd_I rfl rfl (Nat.le_of_ble_eq_true rfl) (xu_id xu_same) hS dX1_init_29 (fun H locs hz hX hS => ?_)
  refine lv_aload_n hx hb dX1_init_32 rfl (lv_at hl 0 rfl) ?_
  refine lv_bipush (v := 6) hx hb dX1_init_33 (by decide) ?_
  refine x_newq (C := "TenancyDeposits$Tenancy") (t0 := 0) (N' := 6) hx hb hts hown q24 hN.2.2.2.2.2.1 hK rfl hz hX hS (by decide) (by decide) (by decide) (show 0 + 1 ≤ 38 by omega) (show 0 + 6 ≤ 372 by omega) dX1_init_35 (fun H hz hX hS => ?_)
  refine x_put (e1 := (xu (xu e B (.inr (1, [.int 0, .int 5000, .float 1017370378, .int 0, .int 0, .ref (G.1 + (B + 1)), .null]))) (B + 1) (.inl (G.2.2.1, zRows 6 (fun _ => none))))) (C := RX1) (T := TX1) (N := 7) hx hb hts inX1 tyX1 tyX1_ok nmX1 hown hK hz hX (xu_at xu_same (by omega)) rfl 5 (by decide) q156 hin rfl (tyX1_ok 5 (by decide)) rfl rfl (Nat.le_of_ble_eq_true rfl) (by rw [xu_swap (e := _) (n := (B + 1)) (k := B) (by omega), xu_xu]; rfl) hS dX1_init_38 (fun H locs hz hX hS => ?_)
  refine lv_aload_n hx hb dX1_init_41 rfl (lv_at hl 0 rfl) ?_
  refine lv_bipush (v := 24) hx hb dX1_init_42 (by decide) ?_
  refine x_newq (C := "TenancyDeposits$Item") (t0 := 1) (N' := 24) hx hb hts hown q26 hN.2.2.2.2.2.2.1 hK rfl hz hX hS (by decide) (by decide) (by decide) (show (0 + 1) + 1 ≤ 38 by omega) (show (0 + 6) + 24 ≤ 372 by omega) dX1_init_44 (fun H hz hX hS => ?_)
  refine x_put (e1 := (xu (xu (xu e B (.inr (1, [.int 0, .int 5000, .float 1017370378, .int 0, .int 0, .ref (G.1 + (B + 1)), .ref (G.1 + ((B + 1) + 1))]))) (B + 1) (.inl (G.2.2.1, zRows 6 (fun _ => none)))) ((B + 1) + 1) (.inl (G.2.2.2.1, zRows 24 (fun _ => none))))) (C := RX1) (T := TX1) (N := 7) hx hb hts inX1 tyX1 tyX1_ok nmX1 hown hK hz hX (xu_at (xu_at xu_same (by omega)) (by omega)) rfl 6 (by decide) q157 hin rfl (tyX1_ok 6 (by decide)) rfl rfl (Nat.le_of_ble_eq_true rfl) (by rw [xu_swap (e := _) (n := ((B + 1) + 1)) (k := B) (by omega), xu_swap (e := _) (n := (B + 1)) (k := B) (by omega), xu_xu]; rfl) hS dX1_init_47 (fun H locs hz hX hS => ?_)
  refine lv_iconst (v := 0) hx hb dX1_init_50 (by decide) ?_
  refine lv_istore_n (lv' := [(1, .int 0), (0, .ref (G.1 + B))]) hx hb dX1_init_51 rfl hl (by decide) rfl (fun ls hl => ?_)
  have hX := eL_start hX
  have hz : _ = G.1 + (B + 3 + 2 * 0) := hz
  exact loop1 6 0 (by omega) _ _ _ hz hX hS (lv_sub hl [0, 1] rfl)
