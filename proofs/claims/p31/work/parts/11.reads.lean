theorem hdX6_rate : yX6_rate.cls = RX6 ∧ yX6_rate.cls ≠ "java/lang/invoke/MethodHandle" ∧ yX6_rate.cls ≠ "java/lang/invoke/VarHandle" ∧ (parseMethodDescriptor yX6_rate.desc).map (fun d => d.parameters.length) = some 0 := by decide +kernel
set_option maxHeartbeats 4000000 in
set_option maxRecDepth 100000 in
theorem c_X6_rate (l : Launch) (G : zG) (μ : zM) (fb : Nat → Int32) (hfb : μ 1 = fb) : zMet l G yX6_rate cX6_rate 1 (some .float) 0 0 [.ref (G.1 + 0)] μ (zQf G (Int32.toUInt32 (fb 2)) μ) := by
  refine z_start (lv := [(0, .ref (G.1 + 0))]) (by decide) (Nat.le_of_ble_eq_true rfl) rfl ?_
  intro p e s m args below meth c ls hx hb hml hr hlk hts hown hK hZ hS hl
  have hown : s.vm.findClass RX6 = some m.cls := hown
  refine lv_aload_n hx hb dX6_rate_0 rfl (lv_at hl 0 rfl) ?_
  refine z_g0 (f := (μ 0)) (v := .ref (G.1 + 1)) 0 hx hb hts hown hK hZ zk0 rfl (by decide) q226 rfl dX6_rate_1 ?_
  refine z_g1 (f := fb) (v := .float (Int32.toUInt32 (fb 2))) 2 hx hb hts hown hK hZ (zk_book hB1) hfb (by decide) q151 rfl dX6_rate_4 ?_
  exact z_fret hx hb hr hlk hK hZ hS ⟨rfl, rfl⟩ dX6_rate_7
def s_cnt (μ : zM) (fb : Nat → Int32) (T I z w : Nat) : Int32 := match w with
  | 0 => fb 0
  | 1 => nI T
  | 2 => nI (s_tin μ 0 T)
  | 3 => nI (s_tin μ 1 T)
  | 4 => nI (s_tin μ 2 T)
  | 5 => nI (s_tin μ 3 T)
  | 6 => nI I
  | 7 => fb 1
  | 8 => s_cls μ 8 T
  | 9 => s_cls μ 9 T
  | 10 => s_cls μ 10 T
  | 11 => s_cls μ 11 T
  | _ => nI z
theorem hdX6_count : yX6_count.cls = RX6 ∧ yX6_count.cls ≠ "java/lang/invoke/MethodHandle" ∧ yX6_count.cls ≠ "java/lang/invoke/VarHandle" ∧ (parseMethodDescriptor yX6_count.desc).map (fun d => d.parameters.length) = some 1 := by decide +kernel
set_option maxHeartbeats 4000000 in
set_option maxRecDepth 100000 in
theorem c_X6_count (l : Launch) (G : zG) (μ : zM) (fb hh : Nat → Int32) (hfb : μ 1 = fb) (hfh : μ 79 = hh) (T I o z : Nat) (hT : fb 3 = nI T) (hI : fb 4 = nI I) (hT6 : T ≤ 6) (hI24 : I ≤ 24) (ho : hh 1 = nI o) (hz : hh 2 = nI z) (ho4 : o < 4) (hz4 : z ≤ 4) (w : Nat) (hw : w ≤ 12) : zMet l G yX6_count cX6_count 2 (some .int) 2 45 [.ref (G.1 + 0), .int (nI w)] μ (zQi G (s_cnt μ fb T I z w) μ) := by
  refine z_start (lv := [(0, .ref (G.1 + 0)), (1, .int (nI w))]) (by decide) (Nat.le_of_ble_eq_true rfl) rfl ?_
  intro p e s m args below meth c ls hx hb hml hr hlk hts hown hK hZ hS hl
  have hown : s.vm.findClass RX6 = some m.cls := hown
  refine lv_iload_n hx hb dX6_count_0 rfl (lv_at hl 1 rfl) ?_
  have hcs : w = 0 ∨ w = 1 ∨ w = 2 ∨ w = 3 ∨ w = 4 ∨ w = 5 ∨ w = 6 ∨ w = 7 ∨ w = 8 ∨ w = 9 ∨ w = 10 ∨ w = 11 ∨ w = 12 := by omega
  rcases hcs with rfl | rfl | rfl | rfl | rfl | rfl | rfl | rfl | rfl | rfl | rfl | rfl | rfl
  · refine lv_tableIn (off := 71) (tgt := 72) hx hb dX6_count_1 (by decide) (by decide) rfl (by decide) ?_
    refine lv_aload_n hx hb dX6_count_72 rfl (lv_at hl 0 rfl) ?_
    refine z_g0 (f := (μ 0)) (v := .ref (G.1 + 1)) 0 hx hb hts hown hK hZ zk0 rfl (by decide) q226 rfl dX6_count_73 ?_
    refine z_g1 (f := fb) (v := .int (fb 0)) 0 hx hb hts hown hK hZ (zk_book hB1) hfb (by decide) q147 rfl dX6_count_76 ?_
    exact z_iret hx hb hr hlk hK hZ hS ⟨rfl, rfl⟩ dX6_count_79
  · refine lv_tableIn (off := 79) (tgt := 80) hx hb dX6_count_1 (by decide) (by decide) rfl (by decide) ?_
    refine lv_aload_n hx hb dX6_count_80 rfl (lv_at hl 0 rfl) ?_
    refine z_g0 (f := (μ 0)) (v := .ref (G.1 + 1)) 0 hx hb hts hown hK hZ zk0 rfl (by decide) q226 rfl dX6_count_81 ?_
    refine z_g1 (f := fb) (v := .int (nI T)) 3 hx hb hts hown hK hZ (zk_book hB1) hfb (by decide) q153 (congrArg (fun z => some (Value.int z)) hT) dX6_count_84 ?_
    exact z_iret hx hb hr hlk hK hZ hS ⟨rfl, rfl⟩ dX6_count_87
  · refine lv_tableIn (off := 87) (tgt := 88) hx hb dX6_count_1 (by decide) (by decide) rfl (by decide) ?_
    refine lv_aload_n hx hb dX6_count_88 rfl (lv_at hl 0 rfl) ?_
    refine z_g0 (f := (μ 0)) (v := .ref (G.1 + 1)) 0 hx hb hts hown hK hZ zk0 rfl (by decide) q226 rfl dX6_count_89 ?_
    refine lv_iload_n hx hb dX6_count_92 rfl (lv_at hl 1 rfl) ?_
    refine lv_iconst (v := 2) hx hb dX6_count_93 (by decide) ?_
    refine lv_isub hx hb dX6_count_94 ?_
    rw [show nI 2 - 2 = nI 0 from rfl]
    refine z_cVi (As := [.int (nI 0)]) (rest := []) hx hb hml hown hts hl hK hZ hS (c_X1_tenanciesIn l G μ fb hfb T hT hT6 0) (z_G q298 q299 q300 q2 q301) hdX1_tenanciesIn ⟨Nat.le_of_ble_eq_true rfl, Nat.le_of_ble_eq_true rfl⟩ (zk_book hB1) (by decide) rfl rfl rfl rfl (Nat.le_of_ble_eq_true rfl) dX6_count_95 ⟨(Nat.zero_le _), (Nat.zero_le _)⟩ (fun H locs hZ hS => ?_)
    exact z_iret hx hb hr hlk hK hZ hS ⟨rfl, rfl⟩ dX6_count_98
  · refine lv_tableIn (off := 87) (tgt := 88) hx hb dX6_count_1 (by decide) (by decide) rfl (by decide) ?_
    refine lv_aload_n hx hb dX6_count_88 rfl (lv_at hl 0 rfl) ?_
    refine z_g0 (f := (μ 0)) (v := .ref (G.1 + 1)) 0 hx hb hts hown hK hZ zk0 rfl (by decide) q226 rfl dX6_count_89 ?_
    refine lv_iload_n hx hb dX6_count_92 rfl (lv_at hl 1 rfl) ?_
    refine lv_iconst (v := 2) hx hb dX6_count_93 (by decide) ?_
    refine lv_isub hx hb dX6_count_94 ?_
    rw [show nI 3 - 2 = nI 1 from rfl]
    refine z_cVi (As := [.int (nI 1)]) (rest := []) hx hb hml hown hts hl hK hZ hS (c_X1_tenanciesIn l G μ fb hfb T hT hT6 1) (z_G q298 q299 q300 q2 q301) hdX1_tenanciesIn ⟨Nat.le_of_ble_eq_true rfl, Nat.le_of_ble_eq_true rfl⟩ (zk_book hB1) (by decide) rfl rfl rfl rfl (Nat.le_of_ble_eq_true rfl) dX6_count_95 ⟨(Nat.zero_le _), (Nat.zero_le _)⟩ (fun H locs hZ hS => ?_)
    exact z_iret hx hb hr hlk hK hZ hS ⟨rfl, rfl⟩ dX6_count_98
  · refine lv_tableIn (off := 87) (tgt := 88) hx hb dX6_count_1 (by decide) (by decide) rfl (by decide) ?_
    refine lv_aload_n hx hb dX6_count_88 rfl (lv_at hl 0 rfl) ?_
    refine z_g0 (f := (μ 0)) (v := .ref (G.1 + 1)) 0 hx hb hts hown hK hZ zk0 rfl (by decide) q226 rfl dX6_count_89 ?_
    refine lv_iload_n hx hb dX6_count_92 rfl (lv_at hl 1 rfl) ?_
    refine lv_iconst (v := 2) hx hb dX6_count_93 (by decide) ?_
    refine lv_isub hx hb dX6_count_94 ?_
    rw [show nI 4 - 2 = nI 2 from rfl]
    refine z_cVi (As := [.int (nI 2)]) (rest := []) hx hb hml hown hts hl hK hZ hS (c_X1_tenanciesIn l G μ fb hfb T hT hT6 2) (z_G q298 q299 q300 q2 q301) hdX1_tenanciesIn ⟨Nat.le_of_ble_eq_true rfl, Nat.le_of_ble_eq_true rfl⟩ (zk_book hB1) (by decide) rfl rfl rfl rfl (Nat.le_of_ble_eq_true rfl) dX6_count_95 ⟨(Nat.zero_le _), (Nat.zero_le _)⟩ (fun H locs hZ hS => ?_)
    exact z_iret hx hb hr hlk hK hZ hS ⟨rfl, rfl⟩ dX6_count_98
  · refine lv_tableIn (off := 87) (tgt := 88) hx hb dX6_count_1 (by decide) (by decide) rfl (by decide) ?_
    refine lv_aload_n hx hb dX6_count_88 rfl (lv_at hl 0 rfl) ?_
    refine z_g0 (f := (μ 0)) (v := .ref (G.1 + 1)) 0 hx hb hts hown hK hZ zk0 rfl (by decide) q226 rfl dX6_count_89 ?_
    refine lv_iload_n hx hb dX6_count_92 rfl (lv_at hl 1 rfl) ?_
    refine lv_iconst (v := 2) hx hb dX6_count_93 (by decide) ?_
    refine lv_isub hx hb dX6_count_94 ?_
    rw [show nI 5 - 2 = nI 3 from rfl]
    refine z_cVi (As := [.int (nI 3)]) (rest := []) hx hb hml hown hts hl hK hZ hS (c_X1_tenanciesIn l G μ fb hfb T hT hT6 3) (z_G q298 q299 q300 q2 q301) hdX1_tenanciesIn ⟨Nat.le_of_ble_eq_true rfl, Nat.le_of_ble_eq_true rfl⟩ (zk_book hB1) (by decide) rfl rfl rfl rfl (Nat.le_of_ble_eq_true rfl) dX6_count_95 ⟨(Nat.zero_le _), (Nat.zero_le _)⟩ (fun H locs hZ hS => ?_)
    exact z_iret hx hb hr hlk hK hZ hS ⟨rfl, rfl⟩ dX6_count_98
  · refine lv_tableIn (off := 98) (tgt := 99) hx hb dX6_count_1 (by decide) (by decide) rfl (by decide) ?_
    refine lv_aload_n hx hb dX6_count_99 rfl (lv_at hl 0 rfl) ?_
    refine z_g0 (f := (μ 0)) (v := .ref (G.1 + 1)) 0 hx hb hts hown hK hZ zk0 rfl (by decide) q226 rfl dX6_count_100 ?_
    refine z_g1 (f := fb) (v := .int (nI I)) 4 hx hb hts hown hK hZ (zk_book hB1) hfb (by decide) q155 (congrArg (fun z => some (Value.int z)) hI) dX6_count_103 ?_
    exact z_iret hx hb hr hlk hK hZ hS ⟨rfl, rfl⟩ dX6_count_106
  · refine lv_tableIn (off := 106) (tgt := 107) hx hb dX6_count_1 (by decide) (by decide) rfl (by decide) ?_
    refine lv_aload_n hx hb dX6_count_107 rfl (lv_at hl 0 rfl) ?_
    refine z_g0 (f := (μ 0)) (v := .ref (G.1 + 1)) 0 hx hb hts hown hK hZ zk0 rfl (by decide) q226 rfl dX6_count_108 ?_
    refine z_g1 (f := fb) (v := .int (fb 1)) 1 hx hb hts hown hK hZ (zk_book hB1) hfb (by decide) q149 rfl dX6_count_111 ?_
    exact z_iret hx hb hr hlk hK hZ hS ⟨rfl, rfl⟩ dX6_count_114
  · refine lv_tableIn (off := 114) (tgt := 115) hx hb dX6_count_1 (by decide) (by decide) rfl (by decide) ?_
    refine lv_aload_n hx hb dX6_count_115 rfl (lv_at hl 0 rfl) ?_
    refine lv_iload_n hx hb dX6_count_116 rfl (lv_at hl 1 rfl) ?_
    refine z_cVi (As := [.int (nI 8)]) (rest := []) hx hb hml hown hts hl hK hZ hS (c_X6_closedSum l G μ fb hfb T hT hT6 8 (by omega) (by omega)) (z_G q302 q304 qs0 q1 q305) hdX6_closedSum ⟨Nat.le_of_ble_eq_true rfl, Nat.le_of_ble_eq_true rfl⟩ zk0 (by decide) rfl rfl rfl rfl (Nat.le_of_ble_eq_true rfl) dX6_count_117 ⟨(Nat.zero_le _), (Nat.zero_le _)⟩ (fun H locs hZ hS => ?_)
    exact z_iret hx hb hr hlk hK hZ hS ⟨rfl, rfl⟩ dX6_count_120
  · refine lv_tableIn (off := 114) (tgt := 115) hx hb dX6_count_1 (by decide) (by decide) rfl (by decide) ?_
    refine lv_aload_n hx hb dX6_count_115 rfl (lv_at hl 0 rfl) ?_
    refine lv_iload_n hx hb dX6_count_116 rfl (lv_at hl 1 rfl) ?_
    refine z_cVi (As := [.int (nI 9)]) (rest := []) hx hb hml hown hts hl hK hZ hS (c_X6_closedSum l G μ fb hfb T hT hT6 9 (by omega) (by omega)) (z_G q302 q304 qs0 q1 q305) hdX6_closedSum ⟨Nat.le_of_ble_eq_true rfl, Nat.le_of_ble_eq_true rfl⟩ zk0 (by decide) rfl rfl rfl rfl (Nat.le_of_ble_eq_true rfl) dX6_count_117 ⟨(Nat.zero_le _), (Nat.zero_le _)⟩ (fun H locs hZ hS => ?_)
    exact z_iret hx hb hr hlk hK hZ hS ⟨rfl, rfl⟩ dX6_count_120
  · refine lv_tableIn (off := 114) (tgt := 115) hx hb dX6_count_1 (by decide) (by decide) rfl (by decide) ?_
    refine lv_aload_n hx hb dX6_count_115 rfl (lv_at hl 0 rfl) ?_
    refine lv_iload_n hx hb dX6_count_116 rfl (lv_at hl 1 rfl) ?_
    refine z_cVi (As := [.int (nI 10)]) (rest := []) hx hb hml hown hts hl hK hZ hS (c_X6_closedSum l G μ fb hfb T hT hT6 10 (by omega) (by omega)) (z_G q302 q304 qs0 q1 q305) hdX6_closedSum ⟨Nat.le_of_ble_eq_true rfl, Nat.le_of_ble_eq_true rfl⟩ zk0 (by decide) rfl rfl rfl rfl (Nat.le_of_ble_eq_true rfl) dX6_count_117 ⟨(Nat.zero_le _), (Nat.zero_le _)⟩ (fun H locs hZ hS => ?_)
    exact z_iret hx hb hr hlk hK hZ hS ⟨rfl, rfl⟩ dX6_count_120
  · refine lv_tableIn (off := 114) (tgt := 115) hx hb dX6_count_1 (by decide) (by decide) rfl (by decide) ?_
    refine lv_aload_n hx hb dX6_count_115 rfl (lv_at hl 0 rfl) ?_
    refine lv_iload_n hx hb dX6_count_116 rfl (lv_at hl 1 rfl) ?_
    refine z_cVi (As := [.int (nI 11)]) (rest := []) hx hb hml hown hts hl hK hZ hS (c_X6_closedSum l G μ fb hfb T hT hT6 11 (by omega) (by omega)) (z_G q302 q304 qs0 q1 q305) hdX6_closedSum ⟨Nat.le_of_ble_eq_true rfl, Nat.le_of_ble_eq_true rfl⟩ zk0 (by decide) rfl rfl rfl rfl (Nat.le_of_ble_eq_true rfl) dX6_count_117 ⟨(Nat.zero_le _), (Nat.zero_le _)⟩ (fun H locs hZ hS => ?_)
    exact z_iret hx hb hr hlk hK hZ hS ⟨rfl, rfl⟩ dX6_count_120
  · refine lv_tableIn (off := 120) (tgt := 121) hx hb dX6_count_1 (by decide) (by decide) rfl (by decide) ?_
    refine lv_aload_n hx hb dX6_count_121 rfl (lv_at hl 0 rfl) ?_
    refine z_g0 (f := (μ 0)) (v := .ref (G.1 + 79)) 2 hx hb hts hown hK hZ zk0 rfl (by decide) q228 rfl dX6_count_122 ?_
    refine z_g7 (f := hh) (v := .int (nI z)) 2 hx hb hts hown hK hZ zk79 hfh (by decide) q185 (congrArg (fun z => some (Value.int z)) hz) dX6_count_125 ?_
    exact z_iret hx hb hr hlk hK hZ hS ⟨rfl, rfl⟩ dX6_count_128
def s_ten (μ : zM) (fb g : Nat → Int32) (t I w : Nat) : Int32 := match w with
  | 0 => g 0
  | 1 => g 1
  | 2 => g 2
  | 3 => s_X1_daysOf fb g
  | 4 => s_X1_interestOf fb g
  | 5 => s_tot μ t 0 I
  | 6 => g 4
  | 7 => s_tot μ t 2 I
  | 8 => s_tot μ t 3 I
  | _ => s_tot μ t 4 I
theorem hdX6_tenancy : yX6_tenancy.cls = RX6 ∧ yX6_tenancy.cls ≠ "java/lang/invoke/MethodHandle" ∧ yX6_tenancy.cls ≠ "java/lang/invoke/VarHandle" ∧ (parseMethodDescriptor yX6_tenancy.desc).map (fun d => d.parameters.length) = some 2 := by decide +kernel
set_option maxHeartbeats 4000000 in
set_option maxRecDepth 100000 in
theorem c_X6_tenancy (l : Launch) (G : zG) (μ : zM) (fb : Nat → Int32) (hfb : μ 1 = fb) (T I : Nat) (hT : fb 3 = nI T) (hI : fb 4 = nI I) (hT6 : T ≤ 6) (hI24 : I ≤ 24) (t : Nat) (ht : t < T) (g : Nat → Int32) (hg : μ (1 + (3 + 2 * t)) = g) (hr8 : fK 125 (Int32.toUInt32 (fb 2))) (w : Nat) (hw : w ≤ 9) : zMet l G yX6_tenancy cX6_tenancy 4 (some .int) 4 89 [.ref (G.1 + 0), .int (nI t), .int (nI w)] μ (zQi G (s_ten μ fb g t I w) μ) := by
  refine z_start (lv := [(0, .ref (G.1 + 0)), (1, .int (nI t)), (2, .int (nI w))]) (by decide) (Nat.le_of_ble_eq_true rfl) rfl ?_
  intro p e s m args below meth c ls hx hb hml hr hlk hts hown hK hZ hS hl
  have hown : s.vm.findClass RX6 = some m.cls := hown
  refine lv_aload_n hx hb dX6_tenancy_0 rfl (lv_at hl 0 rfl) ?_
  refine z_g0 (f := (μ 0)) (v := .ref (G.1 + 1)) 0 hx hb hts hown hK hZ zk0 rfl (by decide) q226 rfl dX6_tenancy_1 ?_
  refine lv_iload_n hx hb dX6_tenancy_4 rfl (lv_at hl 1 rfl) ?_
  refine z_cVr (As := [.int (nI t)]) (rest := []) hx hb hml hown hts hl hK hZ hS (c_X1_tenancyAt_ok l G μ 1 hB1 fb hfb T t hT hT6 (by omega)) (z_G q306 q262 q263 q2 q264) hdX1_tenancyAt ⟨Nat.le_of_ble_eq_true rfl, Nat.le_of_ble_eq_true rfl⟩ (zk_book hB1) (by decide) rfl rfl rfl rfl (Nat.le_of_ble_eq_true rfl) dX6_tenancy_5 ⟨(Nat.zero_le _), (Nat.zero_le _)⟩ (fun H locs hZ hS => ?_)
  refine lv_astore_n (lv' := [(3, .ref (G.1 + (1 + (3 + 2 * t)))), (0, .ref (G.1 + 0)), (1, .int (nI t)), (2, .int (nI w))]) hx hb dX6_tenancy_8 rfl hl (by decide) rfl (fun ls hl => ?_)
  refine lv_aload_n hx hb dX6_tenancy_9 rfl (lv_at hl 0 rfl) ?_
  refine lv_ifnonnull (tgt := 15) hx hb dX6_tenancy_10 (by decide) ?_
  refine lv_iload_n hx hb dX6_tenancy_15 rfl (lv_at hl 3 rfl) ?_
  have hcs : w = 0 ∨ w = 1 ∨ w = 2 ∨ w = 3 ∨ w = 4 ∨ w = 5 ∨ w = 6 ∨ w = 7 ∨ w = 8 ∨ w = 9 := by omega
  rcases hcs with rfl | rfl | rfl | rfl | rfl | rfl | rfl | rfl | rfl | rfl
  · refine lv_tableIn (off := 56) (tgt := 72) hx hb dX6_tenancy_16 (by decide) (by decide) rfl (by decide) ?_
    refine lv_aload_n hx hb dX6_tenancy_72 rfl (lv_at hl 0 rfl) ?_
    refine z_g4 (f := g) (v := .int (g 0)) 0 hx hb hts hown hK hZ (zk_ten hB1 (by omega)) hg (by decide) q61 rfl dX6_tenancy_73 ?_
    exact z_iret hx hb hr hlk hK hZ hS ⟨rfl, rfl⟩ dX6_tenancy_76
  · refine lv_tableIn (off := 61) (tgt := 77) hx hb dX6_tenancy_16 (by decide) (by decide) rfl (by decide) ?_
    refine lv_aload_n hx hb dX6_tenancy_77 rfl (lv_at hl 0 rfl) ?_
    refine z_g4 (f := g) (v := .int (g 1)) 1 hx hb hts hown hK hZ (zk_ten hB1 (by omega)) hg (by decide) q63 rfl dX6_tenancy_78 ?_
    exact z_iret hx hb hr hlk hK hZ hS ⟨rfl, rfl⟩ dX6_tenancy_81
  · refine lv_tableIn (off := 66) (tgt := 82) hx hb dX6_tenancy_16 (by decide) (by decide) rfl (by decide) ?_
    refine lv_aload_n hx hb dX6_tenancy_82 rfl (lv_at hl 0 rfl) ?_
    refine z_g4 (f := g) (v := .int (g 2)) 2 hx hb hts hown hK hZ (zk_ten hB1 (by omega)) hg (by decide) q66 rfl dX6_tenancy_83 ?_
    exact z_iret hx hb hr hlk hK hZ hS ⟨rfl, rfl⟩ dX6_tenancy_86
  · refine lv_tableIn (off := 71) (tgt := 87) hx hb dX6_tenancy_16 (by decide) (by decide) rfl (by decide) ?_
    refine lv_aload_n hx hb dX6_tenancy_87 rfl (lv_at hl 1 rfl) ?_
    refine z_g0 (f := (μ 0)) (v := .ref (G.1 + 1)) 0 hx hb hts hown hK hZ zk0 rfl (by decide) q226 rfl dX6_tenancy_88 ?_
    refine lv_aload_n hx hb dX6_tenancy_91 rfl (lv_at hl 0 rfl) ?_
    refine z_cVi (As := [.ref (G.1 + (1 + (3 + 2 * t)))]) (rest := []) hx hb hml hown hts hl hK hZ hS (c_X1_daysOf l G μ 1 fb (zk_book hB1) hfb (1 + (3 + 2 * t)) g (zk_ten hB1 (by omega)) hg) (z_G q328 q329 q330 q2 q331) hdX1_daysOf ⟨Nat.le_of_ble_eq_true rfl, Nat.le_of_ble_eq_true rfl⟩ (zk_book hB1) (by decide) rfl rfl rfl rfl (Nat.le_of_ble_eq_true rfl) dX6_tenancy_92 ⟨(Nat.zero_le _), (Nat.zero_le _)⟩ (fun H locs hZ hS => ?_)
    exact z_iret hx hb hr hlk hK hZ hS ⟨rfl, rfl⟩ dX6_tenancy_95
  · refine lv_tableIn (off := 80) (tgt := 96) hx hb dX6_tenancy_16 (by decide) (by decide) rfl (by decide) ?_
    refine lv_aload_n hx hb dX6_tenancy_96 rfl (lv_at hl 1 rfl) ?_
    refine z_g0 (f := (μ 0)) (v := .ref (G.1 + 1)) 0 hx hb hts hown hK hZ zk0 rfl (by decide) q226 rfl dX6_tenancy_97 ?_
    refine lv_aload_n hx hb dX6_tenancy_100 rfl (lv_at hl 0 rfl) ?_
    refine z_cVi (As := [.ref (G.1 + (1 + (3 + 2 * t)))]) (rest := []) hx hb hml hown hts hl hK hZ hS (c_X1_interestOf l G μ 1 fb (zk_book hB1) hfb (1 + (3 + 2 * t)) g (zk_ten hB1 (by omega)) hg hr8) (z_G q332 q333 q334 q2 q335) hdX1_interestOf ⟨Nat.le_of_ble_eq_true rfl, Nat.le_of_ble_eq_true rfl⟩ (zk_book hB1) (by decide) rfl rfl rfl rfl (Nat.le_of_ble_eq_true rfl) dX6_tenancy_101 ⟨(Nat.zero_le _), (Nat.zero_le _)⟩ (fun H locs hZ hS => ?_)
    exact z_iret hx hb hr hlk hK hZ hS ⟨rfl, rfl⟩ dX6_tenancy_104
  · refine lv_tableIn (off := 89) (tgt := 105) hx hb dX6_tenancy_16 (by decide) (by decide) rfl (by decide) ?_
    refine lv_aload_n hx hb dX6_tenancy_105 rfl (lv_at hl 1 rfl) ?_
    refine z_g0 (f := (μ 0)) (v := .ref (G.1 + 1)) 0 hx hb hts hown hK hZ zk0 rfl (by decide) q226 rfl dX6_tenancy_106 ?_
    refine lv_iload_n hx hb dX6_tenancy_109 rfl (lv_at hl 2 rfl) ?_
    refine lv_iconst (v := 0) hx hb dX6_tenancy_110 (by decide) ?_
    refine z_cVi (As := [.int (nI t), .int 0]) (rest := []) hx hb hml hown hts hl hK hZ hS (c_X1_total l G μ fb hfb I hI hI24 t 0 (by omega)) (z_G q337 q338 q339 q2 q340) hdX1_total ⟨Nat.le_of_ble_eq_true rfl, Nat.le_of_ble_eq_true rfl⟩ (zk_book hB1) (by decide) rfl rfl rfl rfl (Nat.le_of_ble_eq_true rfl) dX6_tenancy_111 ⟨(Nat.zero_le _), (Nat.zero_le _)⟩ (fun H locs hZ hS => ?_)
    exact z_iret hx hb hr hlk hK hZ hS ⟨rfl, rfl⟩ dX6_tenancy_114
  · refine lv_tableIn (off := 99) (tgt := 115) hx hb dX6_tenancy_16 (by decide) (by decide) rfl (by decide) ?_
    refine lv_aload_n hx hb dX6_tenancy_115 rfl (lv_at hl 0 rfl) ?_
    refine z_g4 (f := g) (v := .int (g 4)) 4 hx hb hts hown hK hZ (zk_ten hB1 (by omega)) hg (by decide) q72 rfl dX6_tenancy_116 ?_
    exact z_iret hx hb hr hlk hK hZ hS ⟨rfl, rfl⟩ dX6_tenancy_119
  · refine lv_tableIn (off := 104) (tgt := 120) hx hb dX6_tenancy_16 (by decide) (by decide) rfl (by decide) ?_
    refine lv_aload_n hx hb dX6_tenancy_120 rfl (lv_at hl 1 rfl) ?_
    refine z_g0 (f := (μ 0)) (v := .ref (G.1 + 1)) 0 hx hb hts hown hK hZ zk0 rfl (by decide) q226 rfl dX6_tenancy_121 ?_
    refine lv_iload_n hx hb dX6_tenancy_124 rfl (lv_at hl 2 rfl) ?_
    refine lv_iconst (v := 2) hx hb dX6_tenancy_125 (by decide) ?_
    refine z_cVi (As := [.int (nI t), .int 2]) (rest := []) hx hb hml hown hts hl hK hZ hS (c_X1_total l G μ fb hfb I hI hI24 t 2 (by omega)) (z_G q337 q338 q339 q2 q340) hdX1_total ⟨Nat.le_of_ble_eq_true rfl, Nat.le_of_ble_eq_true rfl⟩ (zk_book hB1) (by decide) rfl rfl rfl rfl (Nat.le_of_ble_eq_true rfl) dX6_tenancy_126 ⟨(Nat.zero_le _), (Nat.zero_le _)⟩ (fun H locs hZ hS => ?_)
    exact z_iret hx hb hr hlk hK hZ hS ⟨rfl, rfl⟩ dX6_tenancy_129
  · refine lv_tableIn (off := 114) (tgt := 130) hx hb dX6_tenancy_16 (by decide) (by decide) rfl (by decide) ?_
    refine lv_aload_n hx hb dX6_tenancy_130 rfl (lv_at hl 1 rfl) ?_
    refine z_g0 (f := (μ 0)) (v := .ref (G.1 + 1)) 0 hx hb hts hown hK hZ zk0 rfl (by decide) q226 rfl dX6_tenancy_131 ?_
    refine lv_iload_n hx hb dX6_tenancy_134 rfl (lv_at hl 2 rfl) ?_
    refine lv_iconst (v := 3) hx hb dX6_tenancy_135 (by decide) ?_
    refine z_cVi (As := [.int (nI t), .int 3]) (rest := []) hx hb hml hown hts hl hK hZ hS (c_X1_total l G μ fb hfb I hI hI24 t 3 (by omega)) (z_G q337 q338 q339 q2 q340) hdX1_total ⟨Nat.le_of_ble_eq_true rfl, Nat.le_of_ble_eq_true rfl⟩ (zk_book hB1) (by decide) rfl rfl rfl rfl (Nat.le_of_ble_eq_true rfl) dX6_tenancy_136 ⟨(Nat.zero_le _), (Nat.zero_le _)⟩ (fun H locs hZ hS => ?_)
    exact z_iret hx hb hr hlk hK hZ hS ⟨rfl, rfl⟩ dX6_tenancy_139
  · refine lv_tableIn (off := 124) (tgt := 140) hx hb dX6_tenancy_16 (by decide) (by decide) rfl (by decide) ?_
    refine lv_aload_n hx hb dX6_tenancy_140 rfl (lv_at hl 1 rfl) ?_
    refine z_g0 (f := (μ 0)) (v := .ref (G.1 + 1)) 0 hx hb hts hown hK hZ zk0 rfl (by decide) q226 rfl dX6_tenancy_141 ?_
    refine lv_iload_n hx hb dX6_tenancy_144 rfl (lv_at hl 2 rfl) ?_
    refine lv_iconst (v := 4) hx hb dX6_tenancy_145 (by decide) ?_
    refine z_cVi (As := [.int (nI t), .int 4]) (rest := []) hx hb hml hown hts hl hK hZ hS (c_X1_total l G μ fb hfb I hI hI24 t 4 (by omega)) (z_G q337 q338 q339 q2 q340) hdX1_total ⟨Nat.le_of_ble_eq_true rfl, Nat.le_of_ble_eq_true rfl⟩ (zk_book hB1) (by decide) rfl rfl rfl rfl (Nat.le_of_ble_eq_true rfl) dX6_tenancy_146 ⟨(Nat.zero_le _), (Nat.zero_le _)⟩ (fun H locs hZ hS => ?_)
    exact z_iret hx hb hr hlk hK hZ hS ⟨rfl, rfl⟩ dX6_tenancy_149
def s_itm (f fb g : Nat → Int32) (w : Nat) : Int32 := match w with
  | 0 => f 0
  | 1 => f 1
  | 2 => f 4
  | 3 => s_X3_fairAfter f (s_X1_daysOf fb g)
  | 4 => s_cf f fb g 4
  | 5 => s_cf f fb g 5
  | 6 => s_cf f fb g 6
  | 7 => f 7
  | 8 => f 8
  | 9 => s_X3_award f
  | _ => s_X3_ageAfter f (s_X1_daysOf fb g)
theorem hdX6_item : yX6_item.cls = RX6 ∧ yX6_item.cls ≠ "java/lang/invoke/MethodHandle" ∧ yX6_item.cls ≠ "java/lang/invoke/VarHandle" ∧ (parseMethodDescriptor yX6_item.desc).map (fun d => d.parameters.length) = some 2 := by decide +kernel
set_option maxHeartbeats 4000000 in
set_option maxRecDepth 100000 in
theorem c_X6_item (l : Launch) (G : zG) (μ : zM) (fb : Nat → Int32) (hfb : μ 1 = fb) (T I : Nat) (hT : fb 3 = nI T) (hI : fb 4 = nI I) (hT6 : T ≤ 6) (hI24 : I ≤ 24) (j h : Nat) (hj : j < I) (hh0 : h < T) (f : Nat → Int32) (hf : μ (1 + (15 + j)) = f) (he : f 0 = nI h) (g : Nat → Int32) (hg : μ (1 + (3 + 2 * h)) = g) (w : Nat) (hw : w ≤ 10) : zMet l G yX6_item cX6_item 4 (some .int) 4 78 [.ref (G.1 + 0), .int (nI j), .int (nI w)] μ (zQi G (s_itm f fb g w) μ) := by
  refine z_start (lv := [(0, .ref (G.1 + 0)), (1, .int (nI j)), (2, .int (nI w))]) (by decide) (Nat.le_of_ble_eq_true rfl) rfl ?_
  intro p e s m args below meth c ls hx hb hml hr hlk hts hown hK hZ hS hl
  have hown : s.vm.findClass RX6 = some m.cls := hown
  refine lv_aload_n hx hb dX6_item_0 rfl (lv_at hl 0 rfl) ?_
  refine z_g0 (f := (μ 0)) (v := .ref (G.1 + 1)) 0 hx hb hts hown hK hZ zk0 rfl (by decide) q226 rfl dX6_item_1 ?_
  refine lv_iload_n hx hb dX6_item_4 rfl (lv_at hl 1 rfl) ?_
  refine z_cVr (As := [.int (nI j)]) (rest := []) hx hb hml hown hts hl hK hZ hS (c_X1_itemAt_ok l G μ 1 hB1 fb hfb I j hI hI24 (by omega)) (z_G q394 q274 q275 q2 q276) hdX1_itemAt ⟨Nat.le_of_ble_eq_true rfl, Nat.le_of_ble_eq_true rfl⟩ (zk_book hB1) (by decide) rfl rfl rfl rfl (Nat.le_of_ble_eq_true rfl) dX6_item_5 ⟨(Nat.zero_le _), (Nat.zero_le _)⟩ (fun H locs hZ hS => ?_)
  refine lv_astore_n (lv' := [(3, .ref (G.1 + (1 + (15 + j)))), (0, .ref (G.1 + 0)), (1, .int (nI j)), (2, .int (nI w))]) hx hb dX6_item_8 rfl hl (by decide) rfl (fun ls hl => ?_)
  refine lv_aload_n hx hb dX6_item_9 rfl (lv_at hl 0 rfl) ?_
  refine lv_ifnonnull (tgt := 15) hx hb dX6_item_10 (by decide) ?_
  refine lv_iload_n hx hb dX6_item_15 rfl (lv_at hl 3 rfl) ?_
  have hcs : w = 0 ∨ w = 1 ∨ w = 2 ∨ w = 3 ∨ w = 4 ∨ w = 5 ∨ w = 6 ∨ w = 7 ∨ w = 8 ∨ w = 9 ∨ w = 10 := by omega
  rcases hcs with rfl | rfl | rfl | rfl | rfl | rfl | rfl | rfl | rfl | rfl | rfl
  · refine lv_tableIn (off := 60) (tgt := 76) hx hb dX6_item_16 (by decide) (by decide) rfl (by decide) ?_
    refine lv_aload_n hx hb dX6_item_76 rfl (lv_at hl 0 rfl) ?_
    refine z_g6 (f := f) (v := .int (nI h)) 0 hx hb hts hown hK hZ (zk_item hB1 (by omega)) hf (by decide) q101 (congrArg (fun z => some (Value.int z)) he) dX6_item_77 ?_
    exact z_iret hx hb hr hlk hK hZ hS ⟨he.symm, rfl⟩ dX6_item_80
  · refine lv_tableIn (off := 65) (tgt := 81) hx hb dX6_item_16 (by decide) (by decide) rfl (by decide) ?_
    refine lv_aload_n hx hb dX6_item_81 rfl (lv_at hl 0 rfl) ?_
    refine z_g6 (f := f) (v := .int (f 1)) 1 hx hb hts hown hK hZ (zk_item hB1 (by omega)) hf (by decide) q103 rfl dX6_item_82 ?_
    exact z_iret hx hb hr hlk hK hZ hS ⟨rfl, rfl⟩ dX6_item_85
  · refine lv_tableIn (off := 70) (tgt := 86) hx hb dX6_item_16 (by decide) (by decide) rfl (by decide) ?_
    refine lv_aload_n hx hb dX6_item_86 rfl (lv_at hl 0 rfl) ?_
    refine z_g6 (f := f) (v := .int (f 4)) 4 hx hb hts hown hK hZ (zk_item hB1 (by omega)) hf (by decide) q107 rfl dX6_item_87 ?_
    exact z_iret hx hb hr hlk hK hZ hS ⟨rfl, rfl⟩ dX6_item_90
  · refine lv_tableIn (off := 75) (tgt := 91) hx hb dX6_item_16 (by decide) (by decide) rfl (by decide) ?_
    refine lv_aload_n hx hb dX6_item_91 rfl (lv_at hl 0 rfl) ?_
    refine lv_aload_n hx hb dX6_item_92 rfl (lv_at hl 1 rfl) ?_
    refine z_g0 (f := (μ 0)) (v := .ref (G.1 + 1)) 0 hx hb hts hown hK hZ zk0 rfl (by decide) q226 rfl dX6_item_93 ?_
    refine lv_aload_n hx hb dX6_item_96 rfl (lv_at hl 0 rfl) ?_
    refine z_cVi (As := [.ref (G.1 + (1 + (15 + j)))]) (rest := [.ref (G.1 + (1 + (15 + j)))]) hx hb hml hown hts hl hK hZ hS (c_X1_daysOfItem l G μ fb hfb (1 + (15 + j)) f (zk_item hB1 (by omega)) hf T h hT hT6 hh0 he g hg) (z_G q395 q396 q397 q2 q398) hdX1_daysOfItem ⟨Nat.le_of_ble_eq_true rfl, Nat.le_of_ble_eq_true rfl⟩ (zk_book hB1) (by decide) rfl rfl rfl rfl (Nat.le_of_ble_eq_true rfl) dX6_item_97 ⟨(Nat.zero_le _), (Nat.zero_le _)⟩ (fun H locs hZ hS => ?_)
    refine z_cVi (As := [.int (s_X1_daysOf fb g)]) (rest := []) hx hb hml hown hts hl hK hZ hS (c_X3_fairAfter l G μ (1 + (15 + j)) f (zk_item hB1 (by omega)) hf (s_X1_daysOf fb g)) (z_G q400 q401 q402 q5 q403) hdX3_fairAfter ⟨Nat.le_of_ble_eq_true rfl, Nat.le_of_ble_eq_true rfl⟩ (zk_item hB1 (by omega)) (by decide) rfl rfl rfl rfl (Nat.le_of_ble_eq_true rfl) dX6_item_100 ⟨(Nat.zero_le _), (Nat.zero_le _)⟩ (fun H locs hZ hS => ?_)
    exact z_iret hx hb hr hlk hK hZ hS ⟨rfl, rfl⟩ dX6_item_103
  · refine lv_tableIn (off := 88) (tgt := 104) hx hb dX6_item_16 (by decide) (by decide) rfl (by decide) ?_
    refine lv_aload_n hx hb dX6_item_104 rfl (lv_at hl 1 rfl) ?_
    refine lv_aload_n hx hb dX6_item_105 rfl (lv_at hl 0 rfl) ?_
    refine lv_iload_n hx hb dX6_item_106 rfl (lv_at hl 3 rfl) ?_
    refine z_cVi (As := [.ref (G.1 + (1 + (15 + j))), .int (nI 4)]) (rest := []) hx hb hml hown hts hl hK hZ hS (c_X6_conditionFact l G μ fb hfb T h hT hT6 hh0 (1 + (15 + j)) f (zk_item hB1 (by omega)) hf he g hg 4 (by omega) (by omega)) (z_G q407 q409 qs1 q1 q410) hdX6_conditionFact ⟨Nat.le_of_ble_eq_true rfl, Nat.le_of_ble_eq_true rfl⟩ zk0 (by decide) rfl rfl rfl rfl (Nat.le_of_ble_eq_true rfl) dX6_item_107 ⟨(Nat.zero_le _), (Nat.zero_le _)⟩ (fun H locs hZ hS => ?_)
    exact z_iret hx hb hr hlk hK hZ hS ⟨rfl, rfl⟩ dX6_item_110
  · refine lv_tableIn (off := 88) (tgt := 104) hx hb dX6_item_16 (by decide) (by decide) rfl (by decide) ?_
    refine lv_aload_n hx hb dX6_item_104 rfl (lv_at hl 1 rfl) ?_
    refine lv_aload_n hx hb dX6_item_105 rfl (lv_at hl 0 rfl) ?_
    refine lv_iload_n hx hb dX6_item_106 rfl (lv_at hl 3 rfl) ?_
    refine z_cVi (As := [.ref (G.1 + (1 + (15 + j))), .int (nI 5)]) (rest := []) hx hb hml hown hts hl hK hZ hS (c_X6_conditionFact l G μ fb hfb T h hT hT6 hh0 (1 + (15 + j)) f (zk_item hB1 (by omega)) hf he g hg 5 (by omega) (by omega)) (z_G q407 q409 qs1 q1 q410) hdX6_conditionFact ⟨Nat.le_of_ble_eq_true rfl, Nat.le_of_ble_eq_true rfl⟩ zk0 (by decide) rfl rfl rfl rfl (Nat.le_of_ble_eq_true rfl) dX6_item_107 ⟨(Nat.zero_le _), (Nat.zero_le _)⟩ (fun H locs hZ hS => ?_)
    exact z_iret hx hb hr hlk hK hZ hS ⟨rfl, rfl⟩ dX6_item_110
  · refine lv_tableIn (off := 88) (tgt := 104) hx hb dX6_item_16 (by decide) (by decide) rfl (by decide) ?_
    refine lv_aload_n hx hb dX6_item_104 rfl (lv_at hl 1 rfl) ?_
    refine lv_aload_n hx hb dX6_item_105 rfl (lv_at hl 0 rfl) ?_
    refine lv_iload_n hx hb dX6_item_106 rfl (lv_at hl 3 rfl) ?_
    refine z_cVi (As := [.ref (G.1 + (1 + (15 + j))), .int (nI 6)]) (rest := []) hx hb hml hown hts hl hK hZ hS (c_X6_conditionFact l G μ fb hfb T h hT hT6 hh0 (1 + (15 + j)) f (zk_item hB1 (by omega)) hf he g hg 6 (by omega) (by omega)) (z_G q407 q409 qs1 q1 q410) hdX6_conditionFact ⟨Nat.le_of_ble_eq_true rfl, Nat.le_of_ble_eq_true rfl⟩ zk0 (by decide) rfl rfl rfl rfl (Nat.le_of_ble_eq_true rfl) dX6_item_107 ⟨(Nat.zero_le _), (Nat.zero_le _)⟩ (fun H locs hZ hS => ?_)
    exact z_iret hx hb hr hlk hK hZ hS ⟨rfl, rfl⟩ dX6_item_110
  · refine lv_tableIn (off := 95) (tgt := 111) hx hb dX6_item_16 (by decide) (by decide) rfl (by decide) ?_
    refine lv_aload_n hx hb dX6_item_111 rfl (lv_at hl 0 rfl) ?_
    refine z_g6 (f := f) (v := .int (f 7)) 7 hx hb hts hown hK hZ (zk_item hB1 (by omega)) hf (by decide) q114 rfl dX6_item_112 ?_
    exact z_iret hx hb hr hlk hK hZ hS ⟨rfl, rfl⟩ dX6_item_115
  · refine lv_tableIn (off := 100) (tgt := 116) hx hb dX6_item_16 (by decide) (by decide) rfl (by decide) ?_
    refine lv_aload_n hx hb dX6_item_116 rfl (lv_at hl 0 rfl) ?_
    refine z_g6 (f := f) (v := .int (f 8)) 8 hx hb hts hown hK hZ (zk_item hB1 (by omega)) hf (by decide) q117 rfl dX6_item_117 ?_
    exact z_iret hx hb hr hlk hK hZ hS ⟨rfl, rfl⟩ dX6_item_120
  · refine lv_tableIn (off := 105) (tgt := 121) hx hb dX6_item_16 (by decide) (by decide) rfl (by decide) ?_
    refine lv_aload_n hx hb dX6_item_121 rfl (lv_at hl 0 rfl) ?_
    refine z_cVi (As := []) (rest := []) hx hb hml hown hts hl hK hZ hS (c_X3_award l G μ (1 + (15 + j)) f (zk_item hB1 (by omega)) hf ) (z_G q420 q346 q347 q5 q348) hdX3_award ⟨Nat.le_of_ble_eq_true rfl, Nat.le_of_ble_eq_true rfl⟩ (zk_item hB1 (by omega)) (by decide) rfl rfl rfl rfl (Nat.le_of_ble_eq_true rfl) dX6_item_122 ⟨(Nat.zero_le _), (Nat.zero_le _)⟩ (fun H locs hZ hS => ?_)
    exact z_iret hx hb hr hlk hK hZ hS ⟨rfl, rfl⟩ dX6_item_125
  · refine lv_tableIn (off := 110) (tgt := 126) hx hb dX6_item_16 (by decide) (by decide) rfl (by decide) ?_
    refine lv_aload_n hx hb dX6_item_126 rfl (lv_at hl 0 rfl) ?_
    refine lv_aload_n hx hb dX6_item_127 rfl (lv_at hl 1 rfl) ?_
    refine z_g0 (f := (μ 0)) (v := .ref (G.1 + 1)) 0 hx hb hts hown hK hZ zk0 rfl (by decide) q226 rfl dX6_item_128 ?_
    refine lv_aload_n hx hb dX6_item_131 rfl (lv_at hl 0 rfl) ?_
    refine z_cVi (As := [.ref (G.1 + (1 + (15 + j)))]) (rest := [.ref (G.1 + (1 + (15 + j)))]) hx hb hml hown hts hl hK hZ hS (c_X1_daysOfItem l G μ fb hfb (1 + (15 + j)) f (zk_item hB1 (by omega)) hf T h hT hT6 hh0 he g hg) (z_G q395 q396 q397 q2 q398) hdX1_daysOfItem ⟨Nat.le_of_ble_eq_true rfl, Nat.le_of_ble_eq_true rfl⟩ (zk_book hB1) (by decide) rfl rfl rfl rfl (Nat.le_of_ble_eq_true rfl) dX6_item_132 ⟨(Nat.zero_le _), (Nat.zero_le _)⟩ (fun H locs hZ hS => ?_)
    refine z_cVi (As := [.int (s_X1_daysOf fb g)]) (rest := []) hx hb hml hown hts hl hK hZ hS (c_X3_ageAfter l G μ (1 + (15 + j)) f (zk_item hB1 (by omega)) hf (s_X1_daysOf fb g)) (z_G q421 q422 q423 q5 q424) hdX3_ageAfter ⟨Nat.le_of_ble_eq_true rfl, Nat.le_of_ble_eq_true rfl⟩ (zk_item hB1 (by omega)) (by decide) rfl rfl rfl rfl (Nat.le_of_ble_eq_true rfl) dX6_item_135 ⟨(Nat.zero_le _), (Nat.zero_le _)⟩ (fun H locs hZ hS => ?_)
    exact z_iret hx hb hr hlk hK hZ hS ⟨rfl, rfl⟩ dX6_item_138
theorem hdX6_rest : yX6_rest.cls = RX6 ∧ yX6_rest.cls ≠ "java/lang/invoke/MethodHandle" ∧ yX6_rest.cls ≠ "java/lang/invoke/VarHandle" ∧ (parseMethodDescriptor yX6_rest.desc).map (fun d => d.parameters.length) = some 1 := by decide +kernel
set_option maxHeartbeats 4000000 in
set_option maxRecDepth 100000 in
theorem c_X6_rest (l : Launch) (G : zG) (μ : zM) (fb : Nat → Int32) (hfb : μ 1 = fb) (T I : Nat) (hT : fb 3 = nI T) (hI : fb 4 = nI I) (hT6 : T ≤ 6) (hI24 : I ≤ 24) (j h : Nat) (hj : j < I) (hh0 : h < T) (f : Nat → Int32) (hf : μ (1 + (15 + j)) = f) (he : f 0 = nI h) (g : Nat → Int32) (hg : μ (1 + (3 + 2 * h)) = g) : zMet l G yX6_rest cX6_rest 3 (some .float) 2 44 [.ref (G.1 + 0), .int (nI j)] μ (zQf G (s_X3_restAfter f (s_X1_daysOf fb g)) μ) := by
  refine z_start (lv := [(0, .ref (G.1 + 0)), (1, .int (nI j))]) (by decide) (Nat.le_of_ble_eq_true rfl) rfl ?_
  intro p e s m args below meth c ls hx hb hml hr hlk hts hown hK hZ hS hl
  have hown : s.vm.findClass RX6 = some m.cls := hown
  refine lv_aload_n hx hb dX6_rest_0 rfl (lv_at hl 0 rfl) ?_
  refine z_g0 (f := (μ 0)) (v := .ref (G.1 + 1)) 0 hx hb hts hown hK hZ zk0 rfl (by decide) q226 rfl dX6_rest_1 ?_
  refine lv_iload_n hx hb dX6_rest_4 rfl (lv_at hl 1 rfl) ?_
  refine z_cVr (As := [.int (nI j)]) (rest := []) hx hb hml hown hts hl hK hZ hS (c_X1_itemAt_ok l G μ 1 hB1 fb hfb I j hI hI24 (by omega)) (z_G q394 q274 q275 q2 q276) hdX1_itemAt ⟨Nat.le_of_ble_eq_true rfl, Nat.le_of_ble_eq_true rfl⟩ (zk_book hB1) (by decide) rfl rfl rfl rfl (Nat.le_of_ble_eq_true rfl) dX6_rest_5 ⟨(Nat.zero_le _), (Nat.zero_le _)⟩ (fun H locs hZ hS => ?_)
  refine lv_astore_n (lv' := [(2, .ref (G.1 + (1 + (15 + j)))), (0, .ref (G.1 + 0)), (1, .int (nI j))]) hx hb dX6_rest_8 rfl hl (by decide) rfl (fun ls hl => ?_)
  refine lv_aload_n hx hb dX6_rest_9 rfl (lv_at hl 0 rfl) ?_
  refine lv_ifnonnull (tgt := 16) hx hb dX6_rest_10 (by decide) ?_
  refine lv_aload_n hx hb dX6_rest_16 rfl (lv_at hl 0 rfl) ?_
  refine lv_aload_n hx hb dX6_rest_17 rfl (lv_at hl 1 rfl) ?_
  refine z_g0 (f := (μ 0)) (v := .ref (G.1 + 1)) 0 hx hb hts hown hK hZ zk0 rfl (by decide) q226 rfl dX6_rest_18 ?_
  refine lv_aload_n hx hb dX6_rest_21 rfl (lv_at hl 0 rfl) ?_
  refine z_cVi (As := [.ref (G.1 + (1 + (15 + j)))]) (rest := [.ref (G.1 + (1 + (15 + j)))]) hx hb hml hown hts hl hK hZ hS (c_X1_daysOfItem l G μ fb hfb (1 + (15 + j)) f (zk_item hB1 (by omega)) hf T h hT hT6 hh0 he g hg) (z_G q395 q396 q397 q2 q398) hdX1_daysOfItem ⟨Nat.le_of_ble_eq_true rfl, Nat.le_of_ble_eq_true rfl⟩ (zk_book hB1) (by decide) rfl rfl rfl rfl (Nat.le_of_ble_eq_true rfl) dX6_rest_22 ⟨(Nat.zero_le _), (Nat.zero_le _)⟩ (fun H locs hZ hS => ?_)
  refine z_cVf (As := [.int (s_X1_daysOf fb g)]) (rest := []) hx hb hml hown hts hl hK hZ hS (c_X3_restAfter l G μ (1 + (15 + j)) f (zk_item hB1 (by omega)) hf (s_X1_daysOf fb g)) (z_G q560 q497 q498 q5 q499) hdX3_restAfter ⟨Nat.le_of_ble_eq_true rfl, Nat.le_of_ble_eq_true rfl⟩ (zk_item hB1 (by omega)) (by decide) rfl rfl rfl rfl (Nat.le_of_ble_eq_true rfl) dX6_rest_25 ⟨(Nat.zero_le _), (Nat.zero_le _)⟩ (fun H locs hZ hS => ?_)
  exact z_fret hx hb hr hlk hK hZ hS ⟨rfl, rfl⟩ dX6_rest_28
set_option maxHeartbeats 4000000 in
set_option maxRecDepth 100000 in
theorem c_X6_rest_no (l : Launch) (G : zG) (μ : zM) (fb : Nat → Int32) (hfb : μ 1 = fb) (T I : Nat) (hT : fb 3 = nI T) (hI : fb 4 = nI I) (hT6 : T ≤ 6) (hI24 : I ≤ 24) (x : Int32) (hxx : x < 0 ∨ nI I ≤ x) : zMet l G yX6_rest cX6_rest 3 (some .float) 1 21 [.ref (G.1 + 0), .int x] μ (zQf G 2143289344 μ) := by
  refine z_start (lv := [(0, .ref (G.1 + 0)), (1, .int x)]) (by decide) (Nat.le_of_ble_eq_true rfl) rfl ?_
  intro p e s m args below meth c ls hx hb hml hr hlk hts hown hK hZ hS hl
  have hown : s.vm.findClass RX6 = some m.cls := hown
  refine lv_aload_n hx hb dX6_rest_0 rfl (lv_at hl 0 rfl) ?_
  refine z_g0 (f := (μ 0)) (v := .ref (G.1 + 1)) 0 hx hb hts hown hK hZ zk0 rfl (by decide) q226 rfl dX6_rest_1 ?_
  refine lv_iload_n hx hb dX6_rest_4 rfl (lv_at hl 1 rfl) ?_
  refine z_cVn (As := [.int x]) (rest := []) hx hb hml hown hts hl hK hZ hS (c_X1_itemAt_no l G μ 1 hB1 fb hfb I hI x hxx) (z_G q394 q274 q275 q2 q276) hdX1_itemAt ⟨Nat.le_of_ble_eq_true rfl, Nat.le_of_ble_eq_true rfl⟩ (zk_book hB1) (by decide) rfl rfl rfl rfl (Nat.le_of_ble_eq_true rfl) dX6_rest_5 ⟨(Nat.zero_le _), (Nat.zero_le _)⟩ (fun H locs hZ hS => ?_)
  refine lv_astore_nN (lv' := [(2, .null), (0, .ref (G.1 + 0)), (1, .int x)]) hx hb dX6_rest_8 rfl hl (by decide) rfl (fun ls hl => ?_)
  refine lv_aload_nN hx hb dX6_rest_9 rfl (lv_at hl 0 rfl) ?_
  refine lv_ifnonnullN hx hb dX6_rest_10 ?_
  refine lv_ldcf hx hb hown (hts _ q429) dX6_rest_13 ?_
  exact z_fret hx hb hr hlk hK hZ hS ⟨rfl, rfl⟩ dX6_rest_15
theorem hdX6_weight : yX6_weight.cls = RX6 ∧ yX6_weight.cls ≠ "java/lang/invoke/MethodHandle" ∧ yX6_weight.cls ≠ "java/lang/invoke/VarHandle" ∧ (parseMethodDescriptor yX6_weight.desc).map (fun d => d.parameters.length) = some 1 := by decide +kernel
set_option maxHeartbeats 4000000 in
set_option maxRecDepth 100000 in
theorem c_X6_weight (l : Launch) (G : zG) (μ : zM) (fb : Nat → Int32) (hfb : μ 1 = fb) (T I : Nat) (hT : fb 3 = nI T) (hI : fb 4 = nI I) (hT6 : T ≤ 6) (hI24 : I ≤ 24) (j : Nat) (hj : j < I) (f : Nat → Int32) (hf : μ (1 + (15 + j)) = f) : zMet l G yX6_weight cX6_weight 3 (some .float) 1 21 [.ref (G.1 + 0), .int (nI j)] μ (zQf G (s_X3_landlordWeight f) μ) := by
  refine z_start (lv := [(0, .ref (G.1 + 0)), (1, .int (nI j))]) (by decide) (Nat.le_of_ble_eq_true rfl) rfl ?_
  intro p e s m args below meth c ls hx hb hml hr hlk hts hown hK hZ hS hl
  have hown : s.vm.findClass RX6 = some m.cls := hown
  refine lv_aload_n hx hb dX6_weight_0 rfl (lv_at hl 0 rfl) ?_
  refine z_g0 (f := (μ 0)) (v := .ref (G.1 + 1)) 0 hx hb hts hown hK hZ zk0 rfl (by decide) q226 rfl dX6_weight_1 ?_
  refine lv_iload_n hx hb dX6_weight_4 rfl (lv_at hl 1 rfl) ?_
  refine z_cVr (As := [.int (nI j)]) (rest := []) hx hb hml hown hts hl hK hZ hS (c_X1_itemAt_ok l G μ 1 hB1 fb hfb I j hI hI24 (by omega)) (z_G q394 q274 q275 q2 q276) hdX1_itemAt ⟨Nat.le_of_ble_eq_true rfl, Nat.le_of_ble_eq_true rfl⟩ (zk_book hB1) (by decide) rfl rfl rfl rfl (Nat.le_of_ble_eq_true rfl) dX6_weight_5 ⟨(Nat.zero_le _), (Nat.zero_le _)⟩ (fun H locs hZ hS => ?_)
  refine lv_astore_n (lv' := [(2, .ref (G.1 + (1 + (15 + j)))), (0, .ref (G.1 + 0)), (1, .int (nI j))]) hx hb dX6_weight_8 rfl hl (by decide) rfl (fun ls hl => ?_)
  refine lv_aload_n hx hb dX6_weight_9 rfl (lv_at hl 0 rfl) ?_
  refine lv_ifnonnull (tgt := 16) hx hb dX6_weight_10 (by decide) ?_
  refine lv_aload_n hx hb dX6_weight_16 rfl (lv_at hl 0 rfl) ?_
  refine z_cVf (As := []) (rest := []) hx hb hml hown hts hl hK hZ hS (c_X3_landlordWeight l G μ (1 + (15 + j)) f (zk_item hB1 (by omega)) hf ) (z_G q430 q350 q351 q5 q352) hdX3_landlordWeight ⟨Nat.le_of_ble_eq_true rfl, Nat.le_of_ble_eq_true rfl⟩ (zk_item hB1 (by omega)) (by decide) rfl rfl rfl rfl (Nat.le_of_ble_eq_true rfl) dX6_weight_17 ⟨(Nat.zero_le _), (Nat.zero_le _)⟩ (fun H locs hZ hS => ?_)
  exact z_fret hx hb hr hlk hK hZ hS ⟨rfl, rfl⟩ dX6_weight_20
set_option maxHeartbeats 4000000 in
set_option maxRecDepth 100000 in
theorem c_X6_weight_no (l : Launch) (G : zG) (μ : zM) (fb : Nat → Int32) (hfb : μ 1 = fb) (T I : Nat) (hT : fb 3 = nI T) (hI : fb 4 = nI I) (hT6 : T ≤ 6) (hI24 : I ≤ 24) (x : Int32) (hxx : x < 0 ∨ nI I ≤ x) : zMet l G yX6_weight cX6_weight 3 (some .float) 1 21 [.ref (G.1 + 0), .int x] μ (zQf G 2143289344 μ) := by
  refine z_start (lv := [(0, .ref (G.1 + 0)), (1, .int x)]) (by decide) (Nat.le_of_ble_eq_true rfl) rfl ?_
  intro p e s m args below meth c ls hx hb hml hr hlk hts hown hK hZ hS hl
  have hown : s.vm.findClass RX6 = some m.cls := hown
  refine lv_aload_n hx hb dX6_weight_0 rfl (lv_at hl 0 rfl) ?_
  refine z_g0 (f := (μ 0)) (v := .ref (G.1 + 1)) 0 hx hb hts hown hK hZ zk0 rfl (by decide) q226 rfl dX6_weight_1 ?_
  refine lv_iload_n hx hb dX6_weight_4 rfl (lv_at hl 1 rfl) ?_
  refine z_cVn (As := [.int x]) (rest := []) hx hb hml hown hts hl hK hZ hS (c_X1_itemAt_no l G μ 1 hB1 fb hfb I hI x hxx) (z_G q394 q274 q275 q2 q276) hdX1_itemAt ⟨Nat.le_of_ble_eq_true rfl, Nat.le_of_ble_eq_true rfl⟩ (zk_book hB1) (by decide) rfl rfl rfl rfl (Nat.le_of_ble_eq_true rfl) dX6_weight_5 ⟨(Nat.zero_le _), (Nat.zero_le _)⟩ (fun H locs hZ hS => ?_)
  refine lv_astore_nN (lv' := [(2, .null), (0, .ref (G.1 + 0)), (1, .int x)]) hx hb dX6_weight_8 rfl hl (by decide) rfl (fun ls hl => ?_)
  refine lv_aload_nN hx hb dX6_weight_9 rfl (lv_at hl 0 rfl) ?_
  refine lv_ifnonnullN hx hb dX6_weight_10 ?_
  refine lv_ldcf hx hb hown (hts _ q429) dX6_weight_13 ?_
  exact z_fret hx hb hr hlk hK hZ hS ⟨rfl, rfl⟩ dX6_weight_15
def s_rsn (f : Nat → Int32) : Int32 := if f 7 = 0 then 0 else if f 8 = 2 then (if f 6 < f 7 then 3 else 2) else 1
theorem hdX6_reason : yX6_reason.cls = RX6 ∧ yX6_reason.cls ≠ "java/lang/invoke/MethodHandle" ∧ yX6_reason.cls ≠ "java/lang/invoke/VarHandle" ∧ (parseMethodDescriptor yX6_reason.desc).map (fun d => d.parameters.length) = some 1 := by decide +kernel
set_option maxHeartbeats 4000000 in
set_option maxRecDepth 100000 in
theorem c_X6_reason (l : Launch) (G : zG) (μ : zM) (fb : Nat → Int32) (hfb : μ 1 = fb) (T I : Nat) (hT : fb 3 = nI T) (hI : fb 4 = nI I) (hT6 : T ≤ 6) (hI24 : I ≤ 24) (j : Nat) (hj : j < I) (f : Nat → Int32) (hf : μ (1 + (15 + j)) = f) : zMet l G yX6_reason cX6_reason 3 (some .int) 1 21 [.ref (G.1 + 0), .int (nI j)] μ (zQi G (s_rsn f) μ) := by
  refine z_start (lv := [(0, .ref (G.1 + 0)), (1, .int (nI j))]) (by decide) (Nat.le_of_ble_eq_true rfl) rfl ?_
  intro p e s m args below meth c ls hx hb hml hr hlk hts hown hK hZ hS hl
  have hown : s.vm.findClass RX6 = some m.cls := hown
  refine lv_aload_n hx hb dX6_reason_0 rfl (lv_at hl 0 rfl) ?_
  refine z_g0 (f := (μ 0)) (v := .ref (G.1 + 1)) 0 hx hb hts hown hK hZ zk0 rfl (by decide) q226 rfl dX6_reason_1 ?_
  refine lv_iload_n hx hb dX6_reason_4 rfl (lv_at hl 1 rfl) ?_
  refine z_cVr (As := [.int (nI j)]) (rest := []) hx hb hml hown hts hl hK hZ hS (c_X1_itemAt_ok l G μ 1 hB1 fb hfb I j hI hI24 (by omega)) (z_G q394 q274 q275 q2 q276) hdX1_itemAt ⟨Nat.le_of_ble_eq_true rfl, Nat.le_of_ble_eq_true rfl⟩ (zk_book hB1) (by decide) rfl rfl rfl rfl (Nat.le_of_ble_eq_true rfl) dX6_reason_5 ⟨(Nat.zero_le _), (Nat.zero_le _)⟩ (fun H locs hZ hS => ?_)
  refine lv_astore_n (lv' := [(2, .ref (G.1 + (1 + (15 + j)))), (0, .ref (G.1 + 0)), (1, .int (nI j))]) hx hb dX6_reason_8 rfl hl (by decide) rfl (fun ls hl => ?_)
  refine lv_aload_n hx hb dX6_reason_9 rfl (lv_at hl 0 rfl) ?_
  refine lv_ifnonnull (tgt := 15) hx hb dX6_reason_10 (by decide) ?_
  refine lv_aload_n hx hb dX6_reason_15 rfl (lv_at hl 0 rfl) ?_
  refine z_g6 (f := f) (v := .int (f 7)) 7 hx hb hts hown hK hZ (zk_item hB1 (by omega)) hf (by decide) q114 rfl dX6_reason_16 ?_
  refine lv_if_ne (tgt := 24) hx hb dX6_reason_19 (by decide) (fun c_1 => ?_) (fun c_1 => ?_)
  · refine lv_aload_n hx hb dX6_reason_24 rfl (lv_at hl 0 rfl) ?_
    refine z_g6 (f := f) (v := .int (f 8)) 8 hx hb hts hown hK hZ (zk_item hB1 (by omega)) hf (by decide) q117 rfl dX6_reason_25 ?_
    refine lv_iconst (v := 2) hx hb dX6_reason_28 (by decide) ?_
    refine lv_icmp_eq (tgt := 34) hx hb dX6_reason_29 (by decide) (fun c_2 => ?_) (fun c_2 => ?_)
    · refine lv_aload_n hx hb dX6_reason_34 rfl (lv_at hl 0 rfl) ?_
      refine z_g6 (f := f) (v := .int (f 7)) 7 hx hb hts hown hK hZ (zk_item hB1 (by omega)) hf (by decide) q114 rfl dX6_reason_35 ?_
      refine lv_aload_n hx hb dX6_reason_38 rfl (lv_at hl 0 rfl) ?_
      refine z_g6 (f := f) (v := .int (f 6)) 6 hx hb hts hown hK hZ (zk_item hB1 (by omega)) hf (by decide) q111 rfl dX6_reason_39 ?_
      refine lv_icmp_gt (tgt := 49) hx hb dX6_reason_42 (by decide) (fun c_3 => ?_) (fun c_3 => ?_)
      · refine lv_iconst (v := 3) hx hb dX6_reason_49 (by decide) ?_
        exact z_iret hx hb hr hlk hK hZ hS ⟨by rw [s_rsn, if_neg c_1, if_pos c_2, if_pos c_3], rfl⟩ dX6_reason_50
      · refine lv_iconst (v := 2) hx hb dX6_reason_45 (by decide) ?_
        refine lv_goto (tgt := 50) hx hb dX6_reason_46 (by decide) ?_
        exact z_iret hx hb hr hlk hK hZ hS ⟨by rw [s_rsn, if_neg c_1, if_pos c_2, if_neg c_3], rfl⟩ dX6_reason_50
    · refine lv_iconst (v := 1) hx hb dX6_reason_32 (by decide) ?_
      exact z_iret hx hb hr hlk hK hZ hS ⟨by rw [s_rsn, if_neg c_1, if_neg c_2], rfl⟩ dX6_reason_33
  · refine lv_iconst (v := 0) hx hb dX6_reason_22 (by decide) ?_
    exact z_iret hx hb hr hlk hK hZ hS ⟨by rw [s_rsn, if_pos c_1], rfl⟩ dX6_reason_23
def s_oc (μ : zM) (fb g gs : Nat → Int32) (t I w : Nat) : Int32 := if g 2 = 0 then -4 else if g 2 = 3 then s_X4_fact gs w else s_X4_fact (s_settle μ fb g t I) w
def m_oc (μ : zM) (fb g : Nat → Int32) (t I : Nat) : zM := if g 2 = 0 then μ else if g 2 = 3 then μ else zr μ 242 (s_settle μ fb g t I)
theorem hdX6_outcome : yX6_outcome.cls = RX6 ∧ yX6_outcome.cls ≠ "java/lang/invoke/MethodHandle" ∧ yX6_outcome.cls ≠ "java/lang/invoke/VarHandle" ∧ (parseMethodDescriptor yX6_outcome.desc).map (fun d => d.parameters.length) = some 2 := by decide +kernel
set_option maxHeartbeats 4000000 in
set_option maxRecDepth 100000 in
theorem c_X6_outcome (l : Launch) (G : zG) (μ : zM) (fb : Nat → Int32) (hfb : μ 1 = fb) (T I : Nat) (hT : fb 3 = nI T) (hI : fb 4 = nI I) (hT6 : T ≤ 6) (hI24 : I ≤ 24) (t : Nat) (ht : t < T) (g : Nat → Int32) (hg : μ (1 + (3 + 2 * t)) = g) (gs : Nat → Int32) (hgs : μ (1 + (3 + 2 * t) + 1) = gs) (hr8 : fK 125 (Int32.toUInt32 (fb 2))) (w : Nat) (hw : w ≤ 5) : zMet l G yX6_outcome cX6_outcome 4 (some .int) 5 115 [.ref (G.1 + 0), .int (nI t), .int (nI w)] μ (zQi G (s_oc μ fb g gs t I w) (m_oc μ fb g t I)) := by
  refine z_start (lv := [(0, .ref (G.1 + 0)), (1, .int (nI t)), (2, .int (nI w))]) (by decide) (Nat.le_of_ble_eq_true rfl) rfl ?_
  intro p e s m args below meth c ls hx hb hml hr hlk hts hown hK hZ hS hl
  have hown : s.vm.findClass RX6 = some m.cls := hown
  refine lv_aload_n hx hb dX6_outcome_0 rfl (lv_at hl 0 rfl) ?_
  refine z_g0 (f := (μ 0)) (v := .ref (G.1 + 1)) 0 hx hb hts hown hK hZ zk0 rfl (by decide) q226 rfl dX6_outcome_1 ?_
  refine lv_iload_n hx hb dX6_outcome_4 rfl (lv_at hl 1 rfl) ?_
  refine z_cVr (As := [.int (nI t)]) (rest := []) hx hb hml hown hts hl hK hZ hS (c_X1_tenancyAt_ok l G μ 1 hB1 fb hfb T t hT hT6 (by omega)) (z_G q306 q262 q263 q2 q264) hdX1_tenancyAt ⟨Nat.le_of_ble_eq_true rfl, Nat.le_of_ble_eq_true rfl⟩ (zk_book hB1) (by decide) rfl rfl rfl rfl (Nat.le_of_ble_eq_true rfl) dX6_outcome_5 ⟨(Nat.zero_le _), (Nat.zero_le _)⟩ (fun H locs hZ hS => ?_)
  refine lv_astore_n (lv' := [(3, .ref (G.1 + (1 + (3 + 2 * t)))), (0, .ref (G.1 + 0)), (1, .int (nI t)), (2, .int (nI w))]) hx hb dX6_outcome_8 rfl hl (by decide) rfl (fun ls hl => ?_)
  refine lv_aload_n hx hb dX6_outcome_9 rfl (lv_at hl 0 rfl) ?_
  refine lv_ifnonnull (tgt := 15) hx hb dX6_outcome_10 (by decide) ?_
  refine lv_iload_n hx hb dX6_outcome_15 rfl (lv_at hl 3 rfl) ?_
  refine lv_iconst (v := 0) hx hb dX6_outcome_16 (by decide) ?_
  refine lv_iconst (v := 5) hx hb dX6_outcome_17 (by decide) ?_
  refine z_cSi (As := [.int (nI w), .int 0, .int 5]) (rest := []) hx hb hml hown hts hl hK hZ hS (c_X6_outside l G μ (nI w) 0 5) (z_GS q358 q359 q1 q360) hdX6_outside ⟨Nat.le_of_ble_eq_true rfl, Nat.le_of_ble_eq_true rfl⟩ rfl rfl (Nat.le_of_ble_eq_true rfl) dX6_outcome_18 ⟨(Nat.zero_le _), (Nat.zero_le _)⟩ (fun H locs hZ hS => ?_)
  refine lv_if_eq (tgt := 27) hx hb dX6_outcome_21 (by decide) (fun c_1 => ?_) (fun c_1 => ?_)
  · refine lv_aload_n hx hb dX6_outcome_27 rfl (lv_at hl 0 rfl) ?_
    refine z_g4 (f := g) (v := .int (g 2)) 2 hx hb hts hown hK hZ (zk_ten hB1 (by omega)) hg (by decide) q66 rfl dX6_outcome_28 ?_
    refine lv_if_ne (tgt := 37) hx hb dX6_outcome_31 (by decide) (fun c_2 => ?_) (fun c_2 => ?_)
    · refine lv_aload_n hx hb dX6_outcome_37 rfl (lv_at hl 0 rfl) ?_
      refine z_g4 (f := g) (v := .int (g 2)) 2 hx hb hts hown hK hZ (zk_ten hB1 (by omega)) hg (by decide) q66 rfl dX6_outcome_38 ?_
      refine lv_iconst (v := 3) hx hb dX6_outcome_41 (by decide) ?_
      refine lv_icmp_ne (tgt := 54) hx hb dX6_outcome_42 (by decide) (fun c_3 => ?_) (fun c_3 => ?_)
      · refine lv_aload_n hx hb dX6_outcome_54 rfl (lv_at hl 1 rfl) ?_
        refine z_g0 (f := (μ 0)) (v := .ref (G.1 + 1)) 0 hx hb hts hown hK hZ zk0 rfl (by decide) q226 rfl dX6_outcome_55 ?_
        refine lv_iload_n hx hb dX6_outcome_58 rfl (lv_at hl 2 rfl) ?_
        refine lv_aload_n hx hb dX6_outcome_59 rfl (lv_at hl 0 rfl) ?_
        refine lv_aload_n hx hb dX6_outcome_60 rfl (lv_at hl 1 rfl) ?_
        refine z_g0 (f := (μ 0)) (v := .ref (G.1 + 242)) 4 hx hb hts hown hK hZ zk0 rfl (by decide) q230 rfl dX6_outcome_61 ?_
        refine z_cVv (As := [.int (nI t), .ref (G.1 + (1 + (3 + 2 * t))), .ref (G.1 + 242)]) (rest := []) hx hb hml hown hts hl hK hZ hS (c_X1_settle l G μ fb hfb I hI hI24 t (1 + (3 + 2 * t)) g (zk_ten hB1 (by omega)) hg 242 zk242 (by omega) (by omega) (fun j hj => by omega) hr8) (z_G q365 q366 q367 q2 q368) hdX1_settle ⟨Nat.le_of_ble_eq_true rfl, Nat.le_of_ble_eq_true rfl⟩ (zk_book hB1) (by decide) rfl rfl rfl rfl (Nat.le_of_ble_eq_true rfl) dX6_outcome_64 ⟨(Nat.zero_le _), (Nat.zero_le _)⟩ (fun H locs hZ hS => ?_)
        refine lv_aload_n hx hb dX6_outcome_67 rfl (lv_at hl 1 rfl) ?_
        refine z_g0 (f := ((zr μ 242 (s_settle μ fb g t I)) 0)) (v := .ref (G.1 + 242)) 4 hx hb hts hown hK hZ zk0 rfl (by decide) q230 rfl dX6_outcome_68 ?_
        refine lv_iload_n hx hb dX6_outcome_71 rfl (lv_at hl 3 rfl) ?_
        refine z_cVi (As := [.int (nI w)]) (rest := []) hx hb hml hown hts hl hK hZ hS (c_X4_fact l G (zr μ 242 (s_settle μ fb g t I)) 242 (s_settle μ fb g t I) zk242 zr_same w (by omega) (by omega)) (z_G q361 q362 q363 q4 q364) hdX4_fact ⟨Nat.le_of_ble_eq_true rfl, Nat.le_of_ble_eq_true rfl⟩ zk242 (by decide) rfl rfl rfl rfl (Nat.le_of_ble_eq_true rfl) dX6_outcome_72 ⟨(Nat.zero_le _), (Nat.zero_le _)⟩ (fun H locs hZ hS => ?_)
        exact z_iret hx hb hr hlk hK hZ hS ⟨by rw [s_oc, if_neg c_2, if_neg c_3], by rw [m_oc, if_neg c_2, if_neg c_3]⟩ dX6_outcome_75
      · refine lv_aload_n hx hb dX6_outcome_45 rfl (lv_at hl 0 rfl) ?_
        refine z_g4 (f := g) (v := .ref (G.1 + ((1 + (3 + 2 * t)) + 1))) 6 hx hb hts hown hK hZ (zk_ten hB1 (by omega)) hg (by decide) q78 rfl dX6_outcome_46 ?_
        refine lv_iload_n hx hb dX6_outcome_49 rfl (lv_at hl 3 rfl) ?_
        refine z_cVi (As := [.int (nI w)]) (rest := []) hx hb hml hown hts hl hK hZ hS (c_X4_fact l G μ ((1 + (3 + 2 * t)) + 1) gs (zk_set1 hB1 (by omega)) hgs w (by omega) (by omega)) (z_G q361 q362 q363 q4 q364) hdX4_fact ⟨Nat.le_of_ble_eq_true rfl, Nat.le_of_ble_eq_true rfl⟩ (zk_set1 hB1 (by omega)) (by decide) rfl rfl rfl rfl (Nat.le_of_ble_eq_true rfl) dX6_outcome_50 ⟨(Nat.zero_le _), (Nat.zero_le _)⟩ (fun H locs hZ hS => ?_)
        exact z_iret hx hb hr hlk hK hZ hS ⟨by rw [s_oc, if_neg c_2, if_pos c_3], by rw [m_oc, if_neg c_2, if_pos c_3]⟩ dX6_outcome_53
    · refine lv_bipush (v := (-4)) hx hb dX6_outcome_34 (by decide) ?_
      exact z_iret hx hb hr hlk hK hZ hS ⟨by rw [s_oc, if_pos c_2], by rw [m_oc, if_pos c_2]⟩ dX6_outcome_36
  · exact absurd (s_outw hw) c_1
