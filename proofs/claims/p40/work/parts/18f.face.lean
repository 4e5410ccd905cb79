abbrev rm_X6_isPlaying : Room := { frames := 1, cells := 0, slots := 0, locals := 20 }
theorem hd_X6_isPlaying : yX6_isPlaying.cls = RX6 ∧ yX6_isPlaying.cls ≠ "java/lang/invoke/MethodHandle" ∧ yX6_isPlaying.cls ≠ "java/lang/invoke/VarHandle" ∧ (parseMethodDescriptor yX6_isPlaying.desc).map (fun d => d.parameters.length) = some 0 := by decide +kernel
set_option maxRecDepth 100000 in
set_option maxHeartbeats 4000000 in
theorem k_X6_isPlaying {D : va_G} {dT : Nat → ClassId} {ad : Nat → Nat} (I : Nat → Nat → Int32) : KI yX6_isPlaying wsX6_isPlaying rm_X6_isPlaying D dT ad I [.ref (ad 0)] (fun q J => I = J ∧ isB I = q) := by
  intro l9
  refine ci_of (own := RX6) (cc := cX6_isPlaying) (maxL := 1) (some .boolean) [(0, .ref (ad 0))] (by decide) rfl rfl rfl (Nat.le_of_ble_eq_true rfl) ?_
  intro X hX hE hN
  have q_w1 : Cond.fieldLink RX6 25 "Perforatum" "player" "LPerforatum$Player;" ∈ wsX6_isPlaying := List.mem_of_getElem? (i := 1) rfl
  have q_inX6 : ∀ w ∈ wsX60, w ∈ wsX6_isPlaying := by decide +kernel
  refine g_aload_n hX 0 rfl dX6_isPlaying_0 rfl ?_
  refine cg_X6_player hX (by decide) rfl q_inX6 q_w1 rfl dX6_isPlaying_1 ?_
  refine c_callI_V hX [] 6 (by decide) rfl (by decide) rfl (k_X2_isBusy I ) gX6_isPlaying_X2_isBusy rfl rfl rfl hd_X2_isBusy ⟨Nat.le_of_ble_eq_true rfl, Nat.le_of_ble_eq_true rfl⟩ ⟨Nat.zero_le _, Nat.zero_le _⟩ rfl (Nat.le_of_ble_eq_true rfl) dX6_isPlaying_4 (fun r_4 J_4 h_4 => ?_)
  obtain ⟨rfl, rfl⟩ := h_4
  refine g_zret hX (nz_isB _) hE dX6_isPlaying_7 (by omega) (by omega) ?_
  exact ⟨_, rfl, rfl, rfl⟩
abbrev rm_X6_row : Room := { frames := 7, cells := 1, slots := 6, locals := 102 }
theorem hd_X6_row : yX6_row.cls = RX6 ∧ yX6_row.cls ≠ "java/lang/invoke/MethodHandle" ∧ yX6_row.cls ≠ "java/lang/invoke/VarHandle" ∧ (parseMethodDescriptor yX6_row.desc).map (fun d => d.parameters.length) = some 0 := by decide +kernel
set_option maxRecDepth 100000 in
set_option maxHeartbeats 4000000 in
theorem k_X6_row {D : va_G} {dT : Nat → ClassId} {ad : Nat → Nat} (I : Nat → Nat → Int32) : KTI yX6_row wsX6_row rm_X6_row D dT ad I [.ref (ad 0)] 1 6 (fun q9 J => kpl I = 0 ∧ I = J ∧ I 3 4 = q9) (fun E => (E = xIS ∧ (kpl I) = 1)) := by
  intro l9 hl9
  refine ti_of hl9 (own := RX6) (cc := cX6_row) (maxL := 1) (some .int) [(0, .ref (ad 0))] (by decide) rfl rfl rfl (Nat.le_of_ble_eq_true rfl) ?_
  intro X hX hE hN
  have hQ := FI.x hE
  have q_w1 : Cond.fieldLink RX6 25 "Perforatum" "player" "LPerforatum$Player;" ∈ wsX6_row := List.mem_of_getElem? (i := 1) rfl
  have q_inX6 : ∀ w ∈ wsX60, w ∈ wsX6_row := by decide +kernel
  have q_w2 : Cond.fieldLink RX6 217 "Perforatum$Player" "nextRow" "I" ∈ wsX6_row := List.mem_of_getElem? (i := 2) rfl
  have q_inX2 : ∀ w ∈ wsX20, w ∈ wsX6_row := by decide +kernel
  refine g_aload_n hX 0 rfl dX6_row_0 rfl ?_
  refine ct_callV_V hX hQ [] 10 (by decide) rfl (by decide) rfl (k_X6_demandPlaying I ) gX6_row_X6_demandPlaying rfl rfl rfl hd_X6_demandPlaying ⟨Nat.le_of_ble_eq_true rfl, Nat.le_of_ble_eq_true rfl⟩ ⟨Nat.le_of_ble_eq_true rfl, Nat.le_of_ble_eq_true rfl⟩ (Nat.le_of_ble_eq_true rfl) (Nat.le_of_ble_eq_true rfl) (fun E h9 => by obtain ⟨rfl, h9⟩ := h9; exact ⟨rfl, by simp [kpl, h9]⟩) rfl (Nat.le_of_ble_eq_true rfl) dX6_row_1 (fun J_1 h_1 => ?_)
  obtain ⟨rfl, w_1⟩ := h_1
  refine g_aload_n hX 0 rfl dX6_row_4 rfl ?_
  refine cg_X6_player hX (by decide) rfl q_inX6 q_w1 rfl dX6_row_5 ?_
  refine cg_X2_nextRow hX (by decide) rfl q_inX2 q_w2 dX6_row_8 ?_
  refine t_iret hX hE dX6_row_11 (Nat.le_of_ble_eq_true rfl) (Nat.le_of_ble_eq_true rfl) ?_
  exact ⟨_, rfl, by simp [kpl, w_1], rfl, rfl⟩
abbrev rm_X6_suction : Room := { frames := 7, cells := 1, slots := 6, locals := 102 }
theorem hd_X6_suction : yX6_suction.cls = RX6 ∧ yX6_suction.cls ≠ "java/lang/invoke/MethodHandle" ∧ yX6_suction.cls ≠ "java/lang/invoke/VarHandle" ∧ (parseMethodDescriptor yX6_suction.desc).map (fun d => d.parameters.length) = some 0 := by decide +kernel
set_option maxRecDepth 100000 in
set_option maxHeartbeats 4000000 in
theorem k_X6_suction {D : va_G} {dT : Nat → ClassId} {ad : Nat → Nat} (I : Nat → Nat → Int32) : KTI yX6_suction wsX6_suction rm_X6_suction D dT ad I [.ref (ad 0)] 1 6 (fun q9 J => kpl I = 0 ∧ I = J ∧ I 3 5 = q9) (fun E => (E = xIS ∧ (kpl I) = 1)) := by
  intro l9 hl9
  refine ti_of hl9 (own := RX6) (cc := cX6_suction) (maxL := 1) (some .int) [(0, .ref (ad 0))] (by decide) rfl rfl rfl (Nat.le_of_ble_eq_true rfl) ?_
  intro X hX hE hN
  have hQ := FI.x hE
  have q_w1 : Cond.fieldLink RX6 25 "Perforatum" "player" "LPerforatum$Player;" ∈ wsX6_suction := List.mem_of_getElem? (i := 1) rfl
  have q_inX6 : ∀ w ∈ wsX60, w ∈ wsX6_suction := by decide +kernel
  have q_w2 : Cond.fieldLink RX6 220 "Perforatum$Player" "vacuum" "I" ∈ wsX6_suction := List.mem_of_getElem? (i := 2) rfl
  have q_inX2 : ∀ w ∈ wsX20, w ∈ wsX6_suction := by decide +kernel
  refine g_aload_n hX 0 rfl dX6_suction_0 rfl ?_
  refine ct_callV_V hX hQ [] 10 (by decide) rfl (by decide) rfl (k_X6_demandPlaying I ) gX6_suction_X6_demandPlaying rfl rfl rfl hd_X6_demandPlaying ⟨Nat.le_of_ble_eq_true rfl, Nat.le_of_ble_eq_true rfl⟩ ⟨Nat.le_of_ble_eq_true rfl, Nat.le_of_ble_eq_true rfl⟩ (Nat.le_of_ble_eq_true rfl) (Nat.le_of_ble_eq_true rfl) (fun E h9 => by obtain ⟨rfl, h9⟩ := h9; exact ⟨rfl, by simp [kpl, h9]⟩) rfl (Nat.le_of_ble_eq_true rfl) dX6_suction_1 (fun J_1 h_1 => ?_)
  obtain ⟨rfl, w_1⟩ := h_1
  refine g_aload_n hX 0 rfl dX6_suction_4 rfl ?_
  refine cg_X6_player hX (by decide) rfl q_inX6 q_w1 rfl dX6_suction_5 ?_
  refine cg_X2_vacuum hX (by decide) rfl q_inX2 q_w2 dX6_suction_8 ?_
  refine t_iret hX hE dX6_suction_11 (Nat.le_of_ble_eq_true rfl) (Nat.le_of_ble_eq_true rfl) ?_
  exact ⟨_, rfl, by simp [kpl, w_1], rfl, rfl⟩
abbrev rm_X6_level : Room := { frames := 7, cells := 1, slots := 6, locals := 102 }
theorem hd_X6_level : yX6_level.cls = RX6 ∧ yX6_level.cls ≠ "java/lang/invoke/MethodHandle" ∧ yX6_level.cls ≠ "java/lang/invoke/VarHandle" ∧ (parseMethodDescriptor yX6_level.desc).map (fun d => d.parameters.length) = some 0 := by decide +kernel
set_option maxRecDepth 100000 in
set_option maxHeartbeats 4000000 in
theorem k_X6_level {D : va_G} {dT : Nat → ClassId} {ad : Nat → Nat} (I : Nat → Nat → Int32) : KTI yX6_level wsX6_level rm_X6_level D dT ad I [.ref (ad 0)] 1 6 (fun q9 J => kpl I = 0 ∧ I = J ∧ I 3 6 = q9) (fun E => (E = xIS ∧ (kpl I) = 1)) := by
  intro l9 hl9
  refine ti_of hl9 (own := RX6) (cc := cX6_level) (maxL := 1) (some .int) [(0, .ref (ad 0))] (by decide) rfl rfl rfl (Nat.le_of_ble_eq_true rfl) ?_
  intro X hX hE hN
  have hQ := FI.x hE
  have q_w1 : Cond.fieldLink RX6 25 "Perforatum" "player" "LPerforatum$Player;" ∈ wsX6_level := List.mem_of_getElem? (i := 1) rfl
  have q_inX6 : ∀ w ∈ wsX60, w ∈ wsX6_level := by decide +kernel
  have q_w2 : Cond.fieldLink RX6 223 "Perforatum$Player" "strength" "I" ∈ wsX6_level := List.mem_of_getElem? (i := 2) rfl
  have q_inX2 : ∀ w ∈ wsX20, w ∈ wsX6_level := by decide +kernel
  refine g_aload_n hX 0 rfl dX6_level_0 rfl ?_
  refine ct_callV_V hX hQ [] 10 (by decide) rfl (by decide) rfl (k_X6_demandPlaying I ) gX6_level_X6_demandPlaying rfl rfl rfl hd_X6_demandPlaying ⟨Nat.le_of_ble_eq_true rfl, Nat.le_of_ble_eq_true rfl⟩ ⟨Nat.le_of_ble_eq_true rfl, Nat.le_of_ble_eq_true rfl⟩ (Nat.le_of_ble_eq_true rfl) (Nat.le_of_ble_eq_true rfl) (fun E h9 => by obtain ⟨rfl, h9⟩ := h9; exact ⟨rfl, by simp [kpl, h9]⟩) rfl (Nat.le_of_ble_eq_true rfl) dX6_level_1 (fun J_1 h_1 => ?_)
  obtain ⟨rfl, w_1⟩ := h_1
  refine g_aload_n hX 0 rfl dX6_level_4 rfl ?_
  refine cg_X6_player hX (by decide) rfl q_inX6 q_w1 rfl dX6_level_5 ?_
  refine cg_X2_strength hX (by decide) rfl q_inX2 q_w2 dX6_level_8 ?_
  refine t_iret hX hE dX6_level_11 (Nat.le_of_ble_eq_true rfl) (Nat.le_of_ble_eq_true rfl) ?_
  exact ⟨_, rfl, by simp [kpl, w_1], rfl, rfl⟩
abbrev rm_X6_isOpen : Room := { frames := 7, cells := 2, slots := 12, locals := 103 }
theorem hd_X6_isOpen : yX6_isOpen.cls = RX6 ∧ yX6_isOpen.cls ≠ "java/lang/invoke/MethodHandle" ∧ yX6_isOpen.cls ≠ "java/lang/invoke/VarHandle" ∧ (parseMethodDescriptor yX6_isOpen.desc).map (fun d => d.parameters.length) = some 1 := by decide +kernel
set_option maxRecDepth 100000 in
set_option maxHeartbeats 4000000 in
theorem k_X6_isOpen {D : va_G} {dT : Nat → ClassId} {ad : Nat → Nat} (I : Nat → Nat → Int32) (hv01 : ∀ v, v < 12 → I (24 + v) 4 = 0 ∨ I (24 + v) 4 = 1) (n : Int32) : KTI yX6_isOpen wsX6_isOpen rm_X6_isOpen D dT ad I [.ref (ad 0), .int n] 2 12 (fun q9 J => kop I n = 0 ∧ I = J ∧ I (24 + n.toNatClampNeg) 4 = q9) (fun E => (E = xIS ∧ (kop I n) = 1) ∨ (E = xIO ∧ (kop I n) = 2)) := by
  intro l9 hl9
  refine ti_of hl9 (own := RX6) (cc := cX6_isOpen) (maxL := 2) (some .boolean) [(0, .ref (ad 0)), (1, .int n)] (by decide) rfl rfl rfl (Nat.le_of_ble_eq_true rfl) ?_
  intro X hX hE hN
  have hQ := FI.x hE
  have q_w1 : Cond.fieldLink RX6 226 "Perforatum$Valve" "stands" "Z" ∈ wsX6_isOpen := List.mem_of_getElem? (i := 1) rfl
  have q_inX5 : ∀ w ∈ wsX50, w ∈ wsX6_isOpen := by decide +kernel
  refine g_aload_n hX 0 rfl dX6_isOpen_0 rfl ?_
  refine ct_callV_V hX hQ [] 10 (by decide) rfl (by decide) rfl (k_X6_demandPlaying I ) gX6_isOpen_X6_demandPlaying rfl rfl rfl hd_X6_demandPlaying ⟨Nat.le_of_ble_eq_true rfl, Nat.le_of_ble_eq_true rfl⟩ ⟨Nat.le_of_ble_eq_true rfl, Nat.le_of_ble_eq_true rfl⟩ (Nat.le_of_ble_eq_true rfl) (Nat.le_of_ble_eq_true rfl) (fun E h9 => by obtain ⟨rfl, h9⟩ := h9; exact ⟨rfl, by simp [kop, h9]⟩) rfl (Nat.le_of_ble_eq_true rfl) dX6_isOpen_1 (fun J_1 h_1 => ?_)
  obtain ⟨rfl, w_1⟩ := h_1
  refine g_aload_n hX 0 rfl dX6_isOpen_4 rfl ?_
  refine g_iload_n hX 1 rfl dX6_isOpen_5 rfl ?_
  refine ct_callQ_V hX hQ [.int n] 10 (by decide) rfl (by decide) rfl (k_X6_demandValve I n) gX6_isOpen_X6_demandValve rfl rfl rfl hd_X6_demandValve ⟨Nat.le_of_ble_eq_true rfl, Nat.le_of_ble_eq_true rfl⟩ ⟨Nat.le_of_ble_eq_true rfl, Nat.le_of_ble_eq_true rfl⟩ (Nat.le_of_ble_eq_true rfl) (Nat.le_of_ble_eq_true rfl) (fun E h9 => by obtain ⟨rfl, h9⟩ := h9; exact ⟨rfl, by simp [kop, h9, w_1]⟩) rfl (Nat.le_of_ble_eq_true rfl) dX6_isOpen_6 (fun r_6 J_6 h_6 => ?_)
  obtain ⟨rfl, rfl, hi_6, vk_6⟩ := h_6
  refine g_stk (st2 := .ref (ad (24 + n.toNatClampNeg)) :: []) rfl ?_
  refine cg_X5_stands hX (by omega) (cK_v hi_6) q_inX5 q_w1 dX6_isOpen_9 ?_
  refine t_zret hX (nz_01 (hv01 _ hi_6)) hE dX6_isOpen_12 (Nat.le_of_ble_eq_true rfl) (Nat.le_of_ble_eq_true rfl) ?_
  exact ⟨_, rfl, by simp [kop, w_1, vk_6], rfl, rfl⟩
abbrev rm_X6_isHeard : Room := { frames := 7, cells := 2, slots := 12, locals := 103 }
theorem hd_X6_isHeard : yX6_isHeard.cls = RX6 ∧ yX6_isHeard.cls ≠ "java/lang/invoke/MethodHandle" ∧ yX6_isHeard.cls ≠ "java/lang/invoke/VarHandle" ∧ (parseMethodDescriptor yX6_isHeard.desc).map (fun d => d.parameters.length) = some 1 := by decide +kernel
set_option maxRecDepth 100000 in
set_option maxHeartbeats 4000000 in
theorem k_X6_isHeard {D : va_G} {dT : Nat → ClassId} {ad : Nat → Nat} (I : Nat → Nat → Int32) (n : Int32) : KTI yX6_isHeard wsX6_isHeard rm_X6_isHeard D dT ad I [.ref (ad 0), .int n] 2 12 (fun q9 J => kop I n = 0 ∧ I = J ∧ iau I n.toNatClampNeg = q9) (fun E => (E = xIS ∧ (kop I n) = 1) ∨ (E = xIO ∧ (kop I n) = 2)) := by
  intro l9 hl9
  refine ti_of hl9 (own := RX6) (cc := cX6_isHeard) (maxL := 2) (some .boolean) [(0, .ref (ad 0)), (1, .int n)] (by decide) rfl rfl rfl (Nat.le_of_ble_eq_true rfl) ?_
  intro X hX hE hN
  have hQ := FI.x hE
  refine g_aload_n hX 0 rfl dX6_isHeard_0 rfl ?_
  refine ct_callV_V hX hQ [] 10 (by decide) rfl (by decide) rfl (k_X6_demandPlaying I ) gX6_isHeard_X6_demandPlaying rfl rfl rfl hd_X6_demandPlaying ⟨Nat.le_of_ble_eq_true rfl, Nat.le_of_ble_eq_true rfl⟩ ⟨Nat.le_of_ble_eq_true rfl, Nat.le_of_ble_eq_true rfl⟩ (Nat.le_of_ble_eq_true rfl) (Nat.le_of_ble_eq_true rfl) (fun E h9 => by obtain ⟨rfl, h9⟩ := h9; exact ⟨rfl, by simp [kop, h9]⟩) rfl (Nat.le_of_ble_eq_true rfl) dX6_isHeard_1 (fun J_1 h_1 => ?_)
  obtain ⟨rfl, w_1⟩ := h_1
  refine g_aload_n hX 0 rfl dX6_isHeard_4 rfl ?_
  refine g_iload_n hX 1 rfl dX6_isHeard_5 rfl ?_
  refine ct_callQ_V hX hQ [.int n] 10 (by decide) rfl (by decide) rfl (k_X6_demandValve I n) gX6_isHeard_X6_demandValve rfl rfl rfl hd_X6_demandValve ⟨Nat.le_of_ble_eq_true rfl, Nat.le_of_ble_eq_true rfl⟩ ⟨Nat.le_of_ble_eq_true rfl, Nat.le_of_ble_eq_true rfl⟩ (Nat.le_of_ble_eq_true rfl) (Nat.le_of_ble_eq_true rfl) (fun E h9 => by obtain ⟨rfl, h9⟩ := h9; exact ⟨rfl, by simp [kop, h9, w_1]⟩) rfl (Nat.le_of_ble_eq_true rfl) dX6_isHeard_6 (fun r_6 J_6 h_6 => ?_)
  obtain ⟨rfl, rfl, hi_6, vk_6⟩ := h_6
  refine g_stk (st2 := .ref (ad (24 + n.toNatClampNeg)) :: []) rfl ?_
  refine c_callI_V hX [] 9 (by omega) (cK_v hi_6) (by decide) rfl (k_X5_isAudible I n.toNatClampNeg hi_6) gX6_isHeard_X5_isAudible rfl rfl rfl hd_X5_isAudible ⟨Nat.le_of_ble_eq_true rfl, Nat.le_of_ble_eq_true rfl⟩ ⟨Nat.le_of_ble_eq_true rfl, Nat.le_of_ble_eq_true rfl⟩ rfl (Nat.le_of_ble_eq_true rfl) dX6_isHeard_9 (fun r_9 J_9 h_9 => ?_)
  obtain ⟨rfl, rfl⟩ := h_9
  refine t_zret hX (nz_iau _ _) hE dX6_isHeard_12 (Nat.le_of_ble_eq_true rfl) (Nat.le_of_ble_eq_true rfl) ?_
  exact ⟨_, rfl, by simp [kop, w_1, vk_6], rfl, rfl⟩
abbrev rm_X6_soundings : Room := { frames := 0, cells := 0, slots := 0, locals := 0 }
theorem hd_X6_soundings : yX6_soundings.cls = RX6 ∧ yX6_soundings.cls ≠ "java/lang/invoke/MethodHandle" ∧ yX6_soundings.cls ≠ "java/lang/invoke/VarHandle" ∧ (parseMethodDescriptor yX6_soundings.desc).map (fun d => d.parameters.length) = some 0 := by decide +kernel
set_option maxRecDepth 100000 in
set_option maxHeartbeats 4000000 in
theorem k_X6_soundings {D : va_G} {dT : Nat → ClassId} {ad : Nat → Nat} (I : Nat → Nat → Int32) : KI yX6_soundings wsX6_soundings rm_X6_soundings D dT ad I [.ref (ad 0)] (fun q J => I = J ∧ I 17 6 = q) := by
  intro l9
  refine ci_of (own := RX6) (cc := cX6_soundings) (maxL := 1) (some .int) [(0, .ref (ad 0))] (by decide) rfl rfl rfl (Nat.le_of_ble_eq_true rfl) ?_
  intro X hX hE hN
  have q_w1 : Cond.fieldLink RX6 43 "Perforatum" "log" "LPerforatum$SoundingLog;" ∈ wsX6_soundings := List.mem_of_getElem? (i := 1) rfl
  have q_inX6 : ∀ w ∈ wsX60, w ∈ wsX6_soundings := by decide +kernel
  have q_w2 : Cond.fieldLink RX6 233 "Perforatum$SoundingLog" "count" "I" ∈ wsX6_soundings := List.mem_of_getElem? (i := 2) rfl
  have q_inX4 : ∀ w ∈ wsX40, w ∈ wsX6_soundings := by decide +kernel
  refine g_aload_n hX 0 rfl dX6_soundings_0 rfl ?_
  refine cg_X6_log hX (by decide) rfl q_inX6 q_w1 rfl dX6_soundings_1 ?_
  refine cg_X4_count hX (by decide) rfl q_inX4 q_w2 dX6_soundings_4 ?_
  refine g_iret hX hE dX6_soundings_7 (by omega) (by omega) ?_
  exact ⟨_, rfl, rfl, rfl⟩
abbrev rm_X6_sounding : Room := { frames := 6, cells := 1, slots := 6, locals := 82 }
theorem hd_X6_sounding : yX6_sounding.cls = RX6 ∧ yX6_sounding.cls ≠ "java/lang/invoke/MethodHandle" ∧ yX6_sounding.cls ≠ "java/lang/invoke/VarHandle" ∧ (parseMethodDescriptor yX6_sounding.desc).map (fun d => d.parameters.length) = some 2 := by decide +kernel
set_option maxRecDepth 100000 in
set_option maxHeartbeats 4000000 in
theorem k_X6_sounding {D : va_G} {dT : Nat → ClassId} {ad : Nat → Nat} (I : Nat → Nat → Int32) (x w : Int32) : KTI yX6_sounding wsX6_sounding rm_X6_sounding D dT ad I [.ref (ad 0), .int x, .int w] 1 6 (fun q9 J => kso I x w = 0 ∧ I = J ∧ ltell I x w = q9) (fun E => (E = xIA ∧ (kso I x w) = 1) ∨ (E = xNS ∧ (kso I x w) = 2)) := by
  intro l9 hl9
  refine ti_of hl9 (own := RX6) (cc := cX6_sounding) (maxL := 3) (some .int) [(0, .ref (ad 0)), (1, .int x), (2, .int w)] (by decide) rfl rfl rfl (Nat.le_of_ble_eq_true rfl) ?_
  intro X hX hE hN
  have hQ := FI.x hE
  have q_w5 : Cond.fieldLink RX6 43 "Perforatum" "log" "LPerforatum$SoundingLog;" ∈ wsX6_sounding := List.mem_of_getElem? (i := 5) rfl
  have q_inX6 : ∀ w ∈ wsX60, w ∈ wsX6_sounding := by decide +kernel
  have q_w3 : Cond.classLink RX6 100 "java/util/NoSuchElementException" ∈ wsX6_sounding := List.mem_of_getElem? (i := 3) rfl
  have q_w4 : Cond.initialized "java/util/NoSuchElementException" ∈ wsX6_sounding := List.mem_of_getElem? (i := 4) rfl
  have q_hat104 : ∀ w ∈ nx_at.filter goodWord, w ∈ wsX6_sounding := by decide +kernel
  have q_w1 : Cond.classLink RX6 142 "java/lang/IllegalArgumentException" ∈ wsX6_sounding := List.mem_of_getElem? (i := 1) rfl
  have q_w2 : Cond.initialized "java/lang/IllegalArgumentException" ∈ wsX6_sounding := List.mem_of_getElem? (i := 2) rfl
  have q_hat146 : ∀ w ∈ (vx_atS RX6 146 "java/lang/IllegalArgumentException" ["java/lang/RuntimeException", "java/lang/Exception"]).filter goodWord, w ∈ wsX6_sounding := by decide +kernel
  refine g_iload_n hX 2 rfl dX6_sounding_0 rfl ?_
  refine g_bipush hX (110) dX6_sounding_1 rfl ?_
  refine g_icmp_eq (tgt := 40) hX dX6_sounding_3 (by decide) (fun c_3 => ?_) (fun c_3 => ?_)
  · refine g_aload_n hX 0 rfl dX6_sounding_40 rfl ?_
    refine cg_X6_log hX (by decide) rfl q_inX6 q_w5 rfl dX6_sounding_41 ?_
    refine g_iload_n hX 1 rfl dX6_sounding_44 rfl ?_
    refine c_callI_V hX [.int x] 8 (by decide) rfl (by decide) rfl (k_X4_has I x) gX6_sounding_X4_has rfl rfl rfl hd_X4_has ⟨Nat.le_of_ble_eq_true rfl, Nat.le_of_ble_eq_true rfl⟩ ⟨Nat.zero_le _, Nat.zero_le _⟩ rfl (Nat.le_of_ble_eq_true rfl) dX6_sounding_45 (fun r_45 J_45 h_45 => ?_)
    obtain ⟨rfl, rfl⟩ := h_45
    refine g_if_ne (tgt := 61) hX dX6_sounding_48 (by decide) (fun c_48 => ?_) (fun c_48 => ?_)
    · refine g_aload_n hX 0 rfl dX6_sounding_61 rfl ?_
      refine cg_X6_log hX (by decide) rfl q_inX6 q_w5 rfl dX6_sounding_62 ?_
      refine g_iload_n hX 1 rfl dX6_sounding_65 rfl ?_
      refine g_iload_n hX 2 rfl dX6_sounding_66 rfl ?_
      refine c_callI_V hX [.int x, .int w] 8 (by decide) rfl (by decide) rfl (k_X4_tell I x w) gX6_sounding_X4_tell rfl rfl rfl hd_X4_tell ⟨Nat.le_of_ble_eq_true rfl, Nat.le_of_ble_eq_true rfl⟩ ⟨Nat.zero_le _, Nat.zero_le _⟩ rfl (Nat.le_of_ble_eq_true rfl) dX6_sounding_67 (fun r_67 J_67 h_67 => ?_)
      obtain ⟨rfl, rfl⟩ := h_67
      refine t_iret hX hE dX6_sounding_70 (Nat.le_of_ble_eq_true rfl) (Nat.le_of_ble_eq_true rfl) ?_
      have hw5 : w = 110 ∨ w = 111 ∨ w = 102 ∨ w = 108 ∨ w = 118 := Or.inl c_3
      exact ⟨_, rfl, by rw [kso, if_pos hw5, if_neg c_48], rfl, rfl⟩
    · refine t_throwN hX hQ (text := "no such sounding") q_w3 q_w4 (by decide) q_hat104 hat_104 hgd_104 dX6_sounding_51 dX6_sounding_54 dX6_sounding_55 dX6_sounding_57 dX6_sounding_60 (Nat.le_of_ble_eq_true rfl) (Nat.le_of_ble_eq_true rfl) (Nat.le_of_ble_eq_true rfl) (Nat.le_of_ble_eq_true rfl) (Nat.le_of_ble_eq_true rfl) (Nat.le_of_ble_eq_true rfl) ?_
      refine ⟨rfl, ?_⟩
      have hw5 : w = 110 ∨ w = 111 ∨ w = 102 ∨ w = 108 ∨ w = 118 := Or.inl c_3
      exact Or.inr ⟨rfl, by rw [kso, if_pos hw5, if_pos c_48]⟩
  · refine g_iload_n hX 2 rfl dX6_sounding_6 rfl ?_
    refine g_bipush hX (111) dX6_sounding_7 rfl ?_
    refine g_icmp_eq (tgt := 40) hX dX6_sounding_9 (by decide) (fun c_9 => ?_) (fun c_9 => ?_)
    · refine g_aload_n hX 0 rfl dX6_sounding_40 rfl ?_
      refine cg_X6_log hX (by decide) rfl q_inX6 q_w5 rfl dX6_sounding_41 ?_
      refine g_iload_n hX 1 rfl dX6_sounding_44 rfl ?_
      refine c_callI_V hX [.int x] 8 (by decide) rfl (by decide) rfl (k_X4_has I x) gX6_sounding_X4_has rfl rfl rfl hd_X4_has ⟨Nat.le_of_ble_eq_true rfl, Nat.le_of_ble_eq_true rfl⟩ ⟨Nat.zero_le _, Nat.zero_le _⟩ rfl (Nat.le_of_ble_eq_true rfl) dX6_sounding_45 (fun r_45 J_45 h_45 => ?_)
      obtain ⟨rfl, rfl⟩ := h_45
      refine g_if_ne (tgt := 61) hX dX6_sounding_48 (by decide) (fun c_48 => ?_) (fun c_48 => ?_)
      · refine g_aload_n hX 0 rfl dX6_sounding_61 rfl ?_
        refine cg_X6_log hX (by decide) rfl q_inX6 q_w5 rfl dX6_sounding_62 ?_
        refine g_iload_n hX 1 rfl dX6_sounding_65 rfl ?_
        refine g_iload_n hX 2 rfl dX6_sounding_66 rfl ?_
        refine c_callI_V hX [.int x, .int w] 8 (by decide) rfl (by decide) rfl (k_X4_tell I x w) gX6_sounding_X4_tell rfl rfl rfl hd_X4_tell ⟨Nat.le_of_ble_eq_true rfl, Nat.le_of_ble_eq_true rfl⟩ ⟨Nat.zero_le _, Nat.zero_le _⟩ rfl (Nat.le_of_ble_eq_true rfl) dX6_sounding_67 (fun r_67 J_67 h_67 => ?_)
        obtain ⟨rfl, rfl⟩ := h_67
        refine t_iret hX hE dX6_sounding_70 (Nat.le_of_ble_eq_true rfl) (Nat.le_of_ble_eq_true rfl) ?_
        have hw5 : w = 110 ∨ w = 111 ∨ w = 102 ∨ w = 108 ∨ w = 118 := Or.inr (Or.inl c_9)
        exact ⟨_, rfl, by rw [kso, if_pos hw5, if_neg c_48], rfl, rfl⟩
      · refine t_throwN hX hQ (text := "no such sounding") q_w3 q_w4 (by decide) q_hat104 hat_104 hgd_104 dX6_sounding_51 dX6_sounding_54 dX6_sounding_55 dX6_sounding_57 dX6_sounding_60 (Nat.le_of_ble_eq_true rfl) (Nat.le_of_ble_eq_true rfl) (Nat.le_of_ble_eq_true rfl) (Nat.le_of_ble_eq_true rfl) (Nat.le_of_ble_eq_true rfl) (Nat.le_of_ble_eq_true rfl) ?_
        refine ⟨rfl, ?_⟩
        have hw5 : w = 110 ∨ w = 111 ∨ w = 102 ∨ w = 108 ∨ w = 118 := Or.inr (Or.inl c_9)
        exact Or.inr ⟨rfl, by rw [kso, if_pos hw5, if_pos c_48]⟩
    · refine g_iload_n hX 2 rfl dX6_sounding_12 rfl ?_
      refine g_bipush hX (102) dX6_sounding_13 rfl ?_
      refine g_icmp_eq (tgt := 40) hX dX6_sounding_15 (by decide) (fun c_15 => ?_) (fun c_15 => ?_)
      · refine g_aload_n hX 0 rfl dX6_sounding_40 rfl ?_
        refine cg_X6_log hX (by decide) rfl q_inX6 q_w5 rfl dX6_sounding_41 ?_
        refine g_iload_n hX 1 rfl dX6_sounding_44 rfl ?_
        refine c_callI_V hX [.int x] 8 (by decide) rfl (by decide) rfl (k_X4_has I x) gX6_sounding_X4_has rfl rfl rfl hd_X4_has ⟨Nat.le_of_ble_eq_true rfl, Nat.le_of_ble_eq_true rfl⟩ ⟨Nat.zero_le _, Nat.zero_le _⟩ rfl (Nat.le_of_ble_eq_true rfl) dX6_sounding_45 (fun r_45 J_45 h_45 => ?_)
        obtain ⟨rfl, rfl⟩ := h_45
        refine g_if_ne (tgt := 61) hX dX6_sounding_48 (by decide) (fun c_48 => ?_) (fun c_48 => ?_)
        · refine g_aload_n hX 0 rfl dX6_sounding_61 rfl ?_
          refine cg_X6_log hX (by decide) rfl q_inX6 q_w5 rfl dX6_sounding_62 ?_
          refine g_iload_n hX 1 rfl dX6_sounding_65 rfl ?_
          refine g_iload_n hX 2 rfl dX6_sounding_66 rfl ?_
          refine c_callI_V hX [.int x, .int w] 8 (by decide) rfl (by decide) rfl (k_X4_tell I x w) gX6_sounding_X4_tell rfl rfl rfl hd_X4_tell ⟨Nat.le_of_ble_eq_true rfl, Nat.le_of_ble_eq_true rfl⟩ ⟨Nat.zero_le _, Nat.zero_le _⟩ rfl (Nat.le_of_ble_eq_true rfl) dX6_sounding_67 (fun r_67 J_67 h_67 => ?_)
          obtain ⟨rfl, rfl⟩ := h_67
          refine t_iret hX hE dX6_sounding_70 (Nat.le_of_ble_eq_true rfl) (Nat.le_of_ble_eq_true rfl) ?_
          have hw5 : w = 110 ∨ w = 111 ∨ w = 102 ∨ w = 108 ∨ w = 118 := Or.inr (Or.inr (Or.inl c_15))
          exact ⟨_, rfl, by rw [kso, if_pos hw5, if_neg c_48], rfl, rfl⟩
        · refine t_throwN hX hQ (text := "no such sounding") q_w3 q_w4 (by decide) q_hat104 hat_104 hgd_104 dX6_sounding_51 dX6_sounding_54 dX6_sounding_55 dX6_sounding_57 dX6_sounding_60 (Nat.le_of_ble_eq_true rfl) (Nat.le_of_ble_eq_true rfl) (Nat.le_of_ble_eq_true rfl) (Nat.le_of_ble_eq_true rfl) (Nat.le_of_ble_eq_true rfl) (Nat.le_of_ble_eq_true rfl) ?_
          refine ⟨rfl, ?_⟩
          have hw5 : w = 110 ∨ w = 111 ∨ w = 102 ∨ w = 108 ∨ w = 118 := Or.inr (Or.inr (Or.inl c_15))
          exact Or.inr ⟨rfl, by rw [kso, if_pos hw5, if_pos c_48]⟩
      · refine g_iload_n hX 2 rfl dX6_sounding_18 rfl ?_
        refine g_bipush hX (108) dX6_sounding_19 rfl ?_
        refine g_icmp_eq (tgt := 40) hX dX6_sounding_21 (by decide) (fun c_21 => ?_) (fun c_21 => ?_)
        · refine g_aload_n hX 0 rfl dX6_sounding_40 rfl ?_
          refine cg_X6_log hX (by decide) rfl q_inX6 q_w5 rfl dX6_sounding_41 ?_
          refine g_iload_n hX 1 rfl dX6_sounding_44 rfl ?_
          refine c_callI_V hX [.int x] 8 (by decide) rfl (by decide) rfl (k_X4_has I x) gX6_sounding_X4_has rfl rfl rfl hd_X4_has ⟨Nat.le_of_ble_eq_true rfl, Nat.le_of_ble_eq_true rfl⟩ ⟨Nat.zero_le _, Nat.zero_le _⟩ rfl (Nat.le_of_ble_eq_true rfl) dX6_sounding_45 (fun r_45 J_45 h_45 => ?_)
          obtain ⟨rfl, rfl⟩ := h_45
          refine g_if_ne (tgt := 61) hX dX6_sounding_48 (by decide) (fun c_48 => ?_) (fun c_48 => ?_)
          · refine g_aload_n hX 0 rfl dX6_sounding_61 rfl ?_
            refine cg_X6_log hX (by decide) rfl q_inX6 q_w5 rfl dX6_sounding_62 ?_
            refine g_iload_n hX 1 rfl dX6_sounding_65 rfl ?_
            refine g_iload_n hX 2 rfl dX6_sounding_66 rfl ?_
            refine c_callI_V hX [.int x, .int w] 8 (by decide) rfl (by decide) rfl (k_X4_tell I x w) gX6_sounding_X4_tell rfl rfl rfl hd_X4_tell ⟨Nat.le_of_ble_eq_true rfl, Nat.le_of_ble_eq_true rfl⟩ ⟨Nat.zero_le _, Nat.zero_le _⟩ rfl (Nat.le_of_ble_eq_true rfl) dX6_sounding_67 (fun r_67 J_67 h_67 => ?_)
            obtain ⟨rfl, rfl⟩ := h_67
            refine t_iret hX hE dX6_sounding_70 (Nat.le_of_ble_eq_true rfl) (Nat.le_of_ble_eq_true rfl) ?_
            have hw5 : w = 110 ∨ w = 111 ∨ w = 102 ∨ w = 108 ∨ w = 118 := Or.inr (Or.inr (Or.inr (Or.inl c_21)))
            exact ⟨_, rfl, by rw [kso, if_pos hw5, if_neg c_48], rfl, rfl⟩
          · refine t_throwN hX hQ (text := "no such sounding") q_w3 q_w4 (by decide) q_hat104 hat_104 hgd_104 dX6_sounding_51 dX6_sounding_54 dX6_sounding_55 dX6_sounding_57 dX6_sounding_60 (Nat.le_of_ble_eq_true rfl) (Nat.le_of_ble_eq_true rfl) (Nat.le_of_ble_eq_true rfl) (Nat.le_of_ble_eq_true rfl) (Nat.le_of_ble_eq_true rfl) (Nat.le_of_ble_eq_true rfl) ?_
            refine ⟨rfl, ?_⟩
            have hw5 : w = 110 ∨ w = 111 ∨ w = 102 ∨ w = 108 ∨ w = 118 := Or.inr (Or.inr (Or.inr (Or.inl c_21)))
            exact Or.inr ⟨rfl, by rw [kso, if_pos hw5, if_pos c_48]⟩
        · refine g_iload_n hX 2 rfl dX6_sounding_24 rfl ?_
          refine g_bipush hX (118) dX6_sounding_25 rfl ?_
          refine g_icmp_eq (tgt := 40) hX dX6_sounding_27 (by decide) (fun c_27 => ?_) (fun c_27 => ?_)
          · refine g_aload_n hX 0 rfl dX6_sounding_40 rfl ?_
            refine cg_X6_log hX (by decide) rfl q_inX6 q_w5 rfl dX6_sounding_41 ?_
            refine g_iload_n hX 1 rfl dX6_sounding_44 rfl ?_
            refine c_callI_V hX [.int x] 8 (by decide) rfl (by decide) rfl (k_X4_has I x) gX6_sounding_X4_has rfl rfl rfl hd_X4_has ⟨Nat.le_of_ble_eq_true rfl, Nat.le_of_ble_eq_true rfl⟩ ⟨Nat.zero_le _, Nat.zero_le _⟩ rfl (Nat.le_of_ble_eq_true rfl) dX6_sounding_45 (fun r_45 J_45 h_45 => ?_)
            obtain ⟨rfl, rfl⟩ := h_45
            refine g_if_ne (tgt := 61) hX dX6_sounding_48 (by decide) (fun c_48 => ?_) (fun c_48 => ?_)
            · refine g_aload_n hX 0 rfl dX6_sounding_61 rfl ?_
              refine cg_X6_log hX (by decide) rfl q_inX6 q_w5 rfl dX6_sounding_62 ?_
              refine g_iload_n hX 1 rfl dX6_sounding_65 rfl ?_
              refine g_iload_n hX 2 rfl dX6_sounding_66 rfl ?_
              refine c_callI_V hX [.int x, .int w] 8 (by decide) rfl (by decide) rfl (k_X4_tell I x w) gX6_sounding_X4_tell rfl rfl rfl hd_X4_tell ⟨Nat.le_of_ble_eq_true rfl, Nat.le_of_ble_eq_true rfl⟩ ⟨Nat.zero_le _, Nat.zero_le _⟩ rfl (Nat.le_of_ble_eq_true rfl) dX6_sounding_67 (fun r_67 J_67 h_67 => ?_)
              obtain ⟨rfl, rfl⟩ := h_67
              refine t_iret hX hE dX6_sounding_70 (Nat.le_of_ble_eq_true rfl) (Nat.le_of_ble_eq_true rfl) ?_
              have hw5 : w = 110 ∨ w = 111 ∨ w = 102 ∨ w = 108 ∨ w = 118 := Or.inr (Or.inr (Or.inr (Or.inr c_27)))
              exact ⟨_, rfl, by rw [kso, if_pos hw5, if_neg c_48], rfl, rfl⟩
            · refine t_throwN hX hQ (text := "no such sounding") q_w3 q_w4 (by decide) q_hat104 hat_104 hgd_104 dX6_sounding_51 dX6_sounding_54 dX6_sounding_55 dX6_sounding_57 dX6_sounding_60 (Nat.le_of_ble_eq_true rfl) (Nat.le_of_ble_eq_true rfl) (Nat.le_of_ble_eq_true rfl) (Nat.le_of_ble_eq_true rfl) (Nat.le_of_ble_eq_true rfl) (Nat.le_of_ble_eq_true rfl) ?_
              refine ⟨rfl, ?_⟩
              have hw5 : w = 110 ∨ w = 111 ∨ w = 102 ∨ w = 108 ∨ w = 118 := Or.inr (Or.inr (Or.inr (Or.inr c_27)))
              exact Or.inr ⟨rfl, by rw [kso, if_pos hw5, if_pos c_48]⟩
          · refine t_throwS hX hQ (text := "a sounding has no such thing") "java/lang/IllegalArgumentException" rfl (by decide +kernel) q_w1 q_w2 (by decide) q_hat146 hat_146 hgd_146 dX6_sounding_30 dX6_sounding_33 dX6_sounding_34 dX6_sounding_36 dX6_sounding_39 (Nat.le_of_ble_eq_true rfl) (Nat.le_of_ble_eq_true rfl) (Nat.le_of_ble_eq_true rfl) (Nat.le_of_ble_eq_true rfl) (Nat.le_of_ble_eq_true rfl) (Nat.le_of_ble_eq_true rfl) ?_
            refine ⟨rfl, ?_⟩
            simp [kso, c_3, c_9, c_15, c_21, c_27]

