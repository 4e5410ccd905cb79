abbrev rm_X6_heardShare : Room := { frames := 6, cells := 1, slots := 6, locals := 82 }
theorem hd_X6_heardShare : yX6_heardShare.cls = RX6 ∧ yX6_heardShare.cls ≠ "java/lang/invoke/MethodHandle" ∧ yX6_heardShare.cls ≠ "java/lang/invoke/VarHandle" ∧ (parseMethodDescriptor yX6_heardShare.desc).map (fun d => d.parameters.length) = some 0 := by decide +kernel
set_option maxRecDepth 100000 in
set_option maxHeartbeats 4000000 in
theorem k_X6_heardShare {D : va_G} {dT : Nat → ClassId} {ad : Nat → Nat} (I : Nat → Nat → Int32) : KTF yX6_heardShare wsX6_heardShare rm_X6_heardShare D dT ad I [.ref (ad 0)] 1 6 (fun q9 J => khs I = 0 ∧ I = J ∧ FP.fdiv (FP.i2f (I 3 9)) (FP.i2f (I 3 8)) = q9) (fun E => (E = xAE ∧ (khs I) = 1)) := by
  intro l9 hl9
  refine tf_of hl9 (own := RX6) (cc := cX6_heardShare) (maxL := 1) [(0, .ref (ad 0))] (by decide) rfl rfl rfl (Nat.le_of_ble_eq_true rfl) ?_
  intro X hX hE hN
  have hQ := FF.x hE
  have q_w3 : Cond.fieldLink RX6 25 "Perforatum" "player" "LPerforatum$Player;" ∈ wsX6_heardShare := List.mem_of_getElem? (i := 3) rfl
  have q_inX6 : ∀ w ∈ wsX60, w ∈ wsX6_heardShare := by decide +kernel
  have q_w4 : Cond.fieldLink RX6 264 "Perforatum$Player" "openings" "I" ∈ wsX6_heardShare := List.mem_of_getElem? (i := 4) rfl
  have q_inX2 : ∀ w ∈ wsX20, w ∈ wsX6_heardShare := by decide +kernel
  have q_w5 : Cond.fieldLink RX6 272 "Perforatum$Player" "beginnings" "I" ∈ wsX6_heardShare := List.mem_of_getElem? (i := 5) rfl
  have q_w1 : Cond.classLink RX6 267 "java/lang/ArithmeticException" ∈ wsX6_heardShare := List.mem_of_getElem? (i := 1) rfl
  have q_w2 : Cond.initialized "java/lang/ArithmeticException" ∈ wsX6_heardShare := List.mem_of_getElem? (i := 2) rfl
  have q_hat271 : ∀ w ∈ (vx_atS RX6 271 "java/lang/ArithmeticException" ["java/lang/RuntimeException", "java/lang/Exception"]).filter goodWord, w ∈ wsX6_heardShare := by decide +kernel
  refine g_aload_n hX 0 rfl dX6_heardShare_0 rfl ?_
  refine cg_X6_player hX (by decide) rfl q_inX6 q_w3 rfl dX6_heardShare_1 ?_
  refine cg_X2_openings hX (by decide) rfl q_inX2 q_w4 dX6_heardShare_4 ?_
  refine g_if_ne (tgt := 21) hX dX6_heardShare_7 (by decide) (fun c_7 => ?_) (fun c_7 => ?_)
  · refine g_aload_n hX 0 rfl dX6_heardShare_21 rfl ?_
    refine cg_X6_player hX (by decide) rfl q_inX6 q_w3 rfl dX6_heardShare_22 ?_
    refine cg_X2_beginnings hX (by decide) rfl q_inX2 q_w5 dX6_heardShare_25 ?_
    refine g_i2f hX dX6_heardShare_28 ?_
    refine g_aload_n hX 0 rfl dX6_heardShare_29 rfl ?_
    refine cg_X6_player hX (by decide) rfl q_inX6 q_w3 rfl dX6_heardShare_30 ?_
    refine cg_X2_openings hX (by decide) rfl q_inX2 q_w4 dX6_heardShare_33 ?_
    refine g_i2f hX dX6_heardShare_36 ?_
    refine g_fdiv hX dX6_heardShare_37 (nn_fdiv c_7) ?_
    refine t_fret hX hE dX6_heardShare_38 (Nat.le_of_ble_eq_true rfl) (Nat.le_of_ble_eq_true rfl) ?_
    exact ⟨_, rfl, by simp [khs, c_7], rfl, rfl⟩
  · refine t_throwSW hX hQ (text := "no valve was opened") "java/lang/ArithmeticException" rfl (by decide +kernel) q_w1 q_w2 (by decide) q_hat271 hat_271 hgd_271 dX6_heardShare_10 dX6_heardShare_13 dX6_heardShare_14 dX6_heardShare_17 dX6_heardShare_20 (Nat.le_of_ble_eq_true rfl) (Nat.le_of_ble_eq_true rfl) (Nat.le_of_ble_eq_true rfl) (Nat.le_of_ble_eq_true rfl) (Nat.le_of_ble_eq_true rfl) (Nat.le_of_ble_eq_true rfl) ?_
    refine ⟨rfl, ?_⟩
    simp [khs, c_7]
abbrev rm_X6_meanLoud : Room := { frames := 6, cells := 1, slots := 6, locals := 82 }
theorem hd_X6_meanLoud : yX6_meanLoud.cls = RX6 ∧ yX6_meanLoud.cls ≠ "java/lang/invoke/MethodHandle" ∧ yX6_meanLoud.cls ≠ "java/lang/invoke/VarHandle" ∧ (parseMethodDescriptor yX6_meanLoud.desc).map (fun d => d.parameters.length) = some 0 := by decide +kernel
set_option maxRecDepth 100000 in
set_option maxHeartbeats 4000000 in
theorem k_X6_meanLoud {D : va_G} {dT : Nat → ClassId} {ad : Nat → Nat} (I : Nat → Nat → Int32) (c : Nat) (hc : I 17 6 = nI c) (h300 : c ≤ 300) : KTZ yX6_meanLoud wsX6_meanLoud rm_X6_meanLoud D dT ad I [.ref (ad 0)] 1 6 (fun q9 J => klo I = 0 ∧ I = J ∧ FP.ddiv (FP.i2d (sumB (I 22) c)) (FP.i2d (I 17 6)) = q9) (fun E => (E = xAE ∧ (klo I) = 1)) := by
  intro l9 hl9
  refine tz_of hl9 (own := RX6) (cc := cX6_meanLoud) (maxL := 1) [(0, .ref (ad 0))] (by decide) rfl rfl rfl (Nat.le_of_ble_eq_true rfl) ?_
  intro X hX hE hN
  have hQ := FZ.x hE
  have q_w3 : Cond.fieldLink RX6 43 "Perforatum" "log" "LPerforatum$SoundingLog;" ∈ wsX6_meanLoud := List.mem_of_getElem? (i := 3) rfl
  have q_inX6 : ∀ w ∈ wsX60, w ∈ wsX6_meanLoud := by decide +kernel
  have q_w4 : Cond.fieldLink RX6 233 "Perforatum$SoundingLog" "count" "I" ∈ wsX6_meanLoud := List.mem_of_getElem? (i := 4) rfl
  have q_inX4 : ∀ w ∈ wsX40, w ∈ wsX6_meanLoud := by decide +kernel
  have q_w1 : Cond.classLink RX6 267 "java/lang/ArithmeticException" ∈ wsX6_meanLoud := List.mem_of_getElem? (i := 1) rfl
  have q_w2 : Cond.initialized "java/lang/ArithmeticException" ∈ wsX6_meanLoud := List.mem_of_getElem? (i := 2) rfl
  have q_hat271 : ∀ w ∈ (vx_atS RX6 271 "java/lang/ArithmeticException" ["java/lang/RuntimeException", "java/lang/Exception"]).filter goodWord, w ∈ wsX6_meanLoud := by decide +kernel
  refine g_aload_n hX 0 rfl dX6_meanLoud_0 rfl ?_
  refine cg_X6_log hX (by decide) rfl q_inX6 q_w3 rfl dX6_meanLoud_1 ?_
  refine cg_X4_count hX (by decide) rfl q_inX4 q_w4 dX6_meanLoud_4 ?_
  refine g_if_ne (tgt := 20) hX dX6_meanLoud_7 (by decide) (fun c_7 => ?_) (fun c_7 => ?_)
  · refine g_aload_n hX 0 rfl dX6_meanLoud_20 rfl ?_
    refine cg_X6_log hX (by decide) rfl q_inX6 q_w3 rfl dX6_meanLoud_21 ?_
    refine c_callI_V hX [] 8 (by decide) rfl (by decide) rfl (k_X4_addLoudness I c hc h300) gX6_meanLoud_X4_addLoudness rfl rfl rfl hd_X4_addLoudness ⟨Nat.le_of_ble_eq_true rfl, Nat.le_of_ble_eq_true rfl⟩ ⟨Nat.zero_le _, Nat.zero_le _⟩ rfl (Nat.le_of_ble_eq_true rfl) dX6_meanLoud_24 (fun r_24 J_24 h_24 => ?_)
    obtain ⟨rfl, rfl⟩ := h_24
    refine g_i2d hX dX6_meanLoud_27 ?_
    refine g_aload_n hX 0 rfl dX6_meanLoud_28 rfl ?_
    refine cg_X6_log hX (by decide) rfl q_inX6 q_w3 rfl dX6_meanLoud_29 ?_
    refine cg_X4_count hX (by decide) rfl q_inX4 q_w4 dX6_meanLoud_32 ?_
    refine g_i2d hX dX6_meanLoud_35 ?_
    refine g_ddiv hX dX6_meanLoud_36 (nn_ddiv c_7) ?_
    refine t_dret hX hE dX6_meanLoud_37 (Nat.le_of_ble_eq_true rfl) (Nat.le_of_ble_eq_true rfl) ?_
    exact ⟨_, rfl, by simp [klo, c_7], rfl, rfl⟩
  · refine t_throwS hX hQ (text := "no sounding is kept") "java/lang/ArithmeticException" rfl (by decide +kernel) q_w1 q_w2 (by decide) q_hat271 hat_271 hgd_271 dX6_meanLoud_10 dX6_meanLoud_13 dX6_meanLoud_14 dX6_meanLoud_16 dX6_meanLoud_19 (Nat.le_of_ble_eq_true rfl) (Nat.le_of_ble_eq_true rfl) (Nat.le_of_ble_eq_true rfl) (Nat.le_of_ble_eq_true rfl) (Nat.le_of_ble_eq_true rfl) (Nat.le_of_ble_eq_true rfl) ?_
    refine ⟨rfl, ?_⟩
    simp [klo, c_7]

