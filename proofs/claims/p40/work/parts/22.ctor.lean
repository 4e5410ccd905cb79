abbrev rm_X0_init : Room := { frames := 1, cells := 3, slots := 120, locals := 12 }
theorem hd_X0_init : yX0_init.cls ≠ "java/lang/invoke/MethodHandle" ∧ yX0_init.cls ≠ "java/lang/invoke/VarHandle" ∧ (parseMethodDescriptor yX0_init.desc).map (fun d => d.parameters.length) = some 0 := by decide +kernel
set_option maxRecDepth 100000 in
set_option maxHeartbeats 4000000 in
theorem k_X0_init {D : va_G} {dT : Nat → ClassId} (ad : Nat → Nat) (L S : List Nat) (I : Nat → Nat → Int32) (R : Nat → Nat → Option Nat) (hRS : RS R S) (hs : 2 ∈ L) (hf0 : 12 ∉ L) (hg0 : 12 ∉ S) (h0_0 : ∀ b, I 12 b = 0) (hr_0 : ∀ b, R 12 b = none) (hf1 : 13 ∉ L) (hg1 : 13 ∉ S) (h0_1 : ∀ b, I 13 b = 0) (hr_1 : ∀ b, R 13 b = none) (hf2 : 14 ∉ L) (hg2 : 14 ∉ S) (h0_2 : ∀ b, I 14 b = 0) (hr_2 : ∀ b, R 14 b = none) {xw : State → Prop} : ∀ l, NV l yX0_init wsX0_init rm_X0_init D (tyl dT) ad L (pf dT cK cN I R ad) [.ref (ad 2)] 3 120 xw (fun u => ∃ ad2, AG L ad ad2 ∧ u = (ad2, (((L ++ [12]) ++ [13]) ++ [14]), pf dT cK cN (up2 I 2 3 0) (up2 (up2 (up2 R 2 0 (some 12)) 2 1 (some 13)) 2 2 (some 14)) ad2)) := by
  intro l9
  refine nv_of (own := RX0) (cc := cX0_init) (maxL := 1) [(0, .ref (ad 2))] (by decide) rfl rfl rfl (Nat.le_of_ble_eq_true rfl) ?_
  intro X hX hE hN hSX
  have q_w1 : Cond.methodLink RX0 3 objectInit ∈ wsX0_init := List.mem_of_getElem? (i := 1) rfl
  have q_w2 : Cond.instanceMethod objectInit ∈ wsX0_init := List.mem_of_getElem? (i := 2) rfl
  have q_w3 : Cond.code objectInit ⟨#[0xb1]⟩ 1 none ∈ wsX0_init := List.mem_of_getElem? (i := 3) rfl
  have q_w4 : Cond.arrayClass .int ∈ wsX0_init := List.mem_of_getElem? (i := 4) rfl
  have q_w5 : Cond.fieldLink RX0 9 "Perforatum$Music" "firsts" "[I" ∈ wsX0_init := List.mem_of_getElem? (i := 5) rfl
  have q_inX0 : ∀ w ∈ wsX00, w ∈ wsX0_init := by decide +kernel
  have q_w6 : Cond.fieldLink RX0 15 "Perforatum$Music" "lengths" "[I" ∈ wsX0_init := List.mem_of_getElem? (i := 6) rfl
  have q_w7 : Cond.fieldLink RX0 18 "Perforatum$Music" "pitches" "[I" ∈ wsX0_init := List.mem_of_getElem? (i := 7) rfl
  have q_w8 : Cond.fieldLink RX0 21 "Perforatum$Music" "count" "I" ∈ wsX0_init := List.mem_of_getElem? (i := 8) rfl
  refine g_aload_n hX 0 rfl dX0_init_0 rfl ?_
  refine g_objInit hX q_w1 q_w2 q_w3 dX0_init_1 (Nat.le_of_ble_eq_true rfl) (Nat.le_of_ble_eq_true rfl) ?_
  refine g_aload_n hX 0 rfl dX0_init_4 rfl ?_
  refine g_bipush hX (40) dX0_init_5 rfl ?_
  refine g_newI hX 12 (by simp [hf0]) (RS_no hRS (by simp [hg0])) 40 rfl rfl (fun b => (h0_0 b)) (x := 40) rfl (by decide) q_w4 (Nat.le_of_ble_eq_true rfl) (Nat.le_of_ble_eq_true rfl) dX0_init_7 (fun q_12 => ?_)
  obtain ⟨ad1, had1⟩ : ∃ z, z = va_up ad 12 q_12 := ⟨_, rfl⟩
  rw [← had1]
  refine g_lvs (lv2 := [(0, .ref (ad1 2))]) (st2 := [.ref (ad1 12), .ref (ad1 2)]) (by subst had1; rfl) (by subst had1; rfl) ?_
  refine g_putRF hX hN (i := 2) 4 0 q_inX0 (by first | exact hs | (simp; omega) | simp [hs]) rfl (by decide) rfl (by decide) rfl q_w5 rfl tyX0_ok nmX0 rfl rfl (ty := .array .int) (by decide +kernel) (x := (some 12)) rfl rfl rfl dX0_init_9 ?_
  refine g_aload_n hX 0 rfl dX0_init_12 rfl ?_
  refine g_bipush hX (40) dX0_init_13 rfl ?_
  refine g_newI hX 13 (by simp [hf1]) (RS_no (RS_up hRS) (by simp [hg1])) 40 rfl rfl (fun b => (h0_1 b)) (x := 40) rfl (by decide) q_w4 (Nat.le_of_ble_eq_true rfl) (Nat.le_of_ble_eq_true rfl) dX0_init_15 (fun q_13 => ?_)
  obtain ⟨ad2, had2⟩ : ∃ z, z = va_up ad1 13 q_13 := ⟨_, rfl⟩
  rw [← had2]
  refine g_lvs (lv2 := [(0, .ref (ad2 2))]) (st2 := [.ref (ad2 13), .ref (ad2 2)]) (by subst had2; rfl) (by subst had2; rfl) ?_
  refine g_putRF hX hN (i := 2) 4 1 q_inX0 (by first | exact hs | (simp; omega) | simp [hs]) rfl (by decide) rfl (by decide) rfl q_w6 rfl tyX0_ok nmX0 rfl rfl (ty := .array .int) (by decide +kernel) (x := (some 13)) rfl rfl rfl dX0_init_17 ?_
  refine g_aload_n hX 0 rfl dX0_init_20 rfl ?_
  refine g_bipush hX (40) dX0_init_21 rfl ?_
  refine g_newI hX 14 (by simp [hf2]) (RS_no (RS_up (RS_up hRS)) (by simp [hg2])) 40 rfl rfl (fun b => (h0_2 b)) (x := 40) rfl (by decide) q_w4 (Nat.le_of_ble_eq_true rfl) (Nat.le_of_ble_eq_true rfl) dX0_init_23 (fun q_14 => ?_)
  obtain ⟨ad3, had3⟩ : ∃ z, z = va_up ad2 14 q_14 := ⟨_, rfl⟩
  rw [← had3]
  refine g_lvs (lv2 := [(0, .ref (ad3 2))]) (st2 := [.ref (ad3 14), .ref (ad3 2)]) (by subst had3; rfl) (by subst had3; rfl) ?_
  refine g_putRF hX hN (i := 2) 4 2 q_inX0 (by first | exact hs | (simp; omega) | simp [hs]) rfl (by decide) rfl (by decide) rfl q_w7 rfl tyX0_ok nmX0 rfl rfl (ty := .array .int) (by decide +kernel) (x := (some 14)) rfl rfl rfl dX0_init_25 ?_
  refine g_aload_n hX 0 rfl dX0_init_28 rfl ?_
  refine g_iconst hX (0) dX0_init_29 rfl ?_
  refine g_putI hX (i := 2) 4 3 q_inX0 (by first | exact hs | (simp; omega) | simp [hs]) rfl (by decide) rfl (by decide) rfl q_w8 rfl tyX0_ok nmX0 rfl (ty := .int) (by decide +kernel) rfl rfl dX0_init_30 ?_
  exact n_vret hX hE dX0_init_33 (Nat.le_of_ble_eq_true rfl) (Nat.le_of_ble_eq_true rfl) ⟨_, (had3 ▸ AG_new (had2 ▸ AG_new (had1 ▸ AG_new AG_rf (by simp [hf0])) (by simp [hf1])) (by simp [hf2])), rfl⟩
abbrev rm_X1_init : Room := { frames := 1, cells := 1, slots := 200, locals := 12 }
theorem hd_X1_init : yX1_init.cls ≠ "java/lang/invoke/MethodHandle" ∧ yX1_init.cls ≠ "java/lang/invoke/VarHandle" ∧ (parseMethodDescriptor yX1_init.desc).map (fun d => d.parameters.length) = some 0 := by decide +kernel
set_option maxRecDepth 100000 in
set_option maxHeartbeats 4000000 in
theorem k_X1_init {D : va_G} {dT : Nat → ClassId} (ad : Nat → Nat) (L S : List Nat) (I : Nat → Nat → Int32) (R : Nat → Nat → Option Nat) (hRS : RS R S) (k : Nat) (hk : k < 4) (hs : (4 + k) ∈ L) (hf0 : (8 + k) ∉ L) (hg0 : (8 + k) ∉ S) (h0_0 : ∀ b, I (8 + k) b = 0) (hr_0 : ∀ b, R (8 + k) b = none) {xw : State → Prop} : ∀ l, NV l yX1_init wsX1_init rm_X1_init D (tyl dT) ad L (pf dT cK cN I R ad) [.ref (ad (4 + k))] 1 200 xw (fun u => ∃ ad2, AG L ad ad2 ∧ u = (ad2, (L ++ [(8 + k)]), pf dT cK cN I (up2 R (4 + k) 0 (some (8 + k))) ad2)) := by
  intro l9
  refine nv_of (own := RX1) (cc := cX1_init) (maxL := 1) [(0, .ref (ad (4 + k)))] (by decide) rfl rfl rfl (Nat.le_of_ble_eq_true rfl) ?_
  intro X hX hE hN hSX
  have q_w1 : Cond.methodLink RX1 3 objectInit ∈ wsX1_init := List.mem_of_getElem? (i := 1) rfl
  have q_w2 : Cond.instanceMethod objectInit ∈ wsX1_init := List.mem_of_getElem? (i := 2) rfl
  have q_w3 : Cond.code objectInit ⟨#[0xb1]⟩ 1 none ∈ wsX1_init := List.mem_of_getElem? (i := 3) rfl
  have q_w4 : Cond.arrayClass .int ∈ wsX1_init := List.mem_of_getElem? (i := 4) rfl
  have q_w5 : Cond.fieldLink RX1 9 "Perforatum$Paper" "bits" "[I" ∈ wsX1_init := List.mem_of_getElem? (i := 5) rfl
  have q_inX1 : ∀ w ∈ wsX10, w ∈ wsX1_init := by decide +kernel
  refine g_aload_n hX 0 rfl dX1_init_0 rfl ?_
  refine g_objInit hX q_w1 q_w2 q_w3 dX1_init_1 (Nat.le_of_ble_eq_true rfl) (Nat.le_of_ble_eq_true rfl) ?_
  refine g_aload_n hX 0 rfl dX1_init_4 rfl ?_
  refine g_sipush hX (200) dX1_init_5 rfl ?_
  refine g_newI hX (8 + k) (by simp [hf0]) (RS_no hRS (by simp [hg0])) 200 (cK_b hk) (cN_b hk) (fun b => (h0_0 b)) (x := 200) rfl (by decide) q_w4 (Nat.le_of_ble_eq_true rfl) (Nat.le_of_ble_eq_true rfl) dX1_init_8 (fun q_8k => ?_)
  obtain ⟨ad1, had1⟩ : ∃ z, z = va_up ad (8 + k) q_8k := ⟨_, rfl⟩
  rw [← had1]
  refine g_lvs (lv2 := [(0, .ref (ad1 (4 + k)))]) (st2 := [.ref (ad1 (8 + k)), .ref (ad1 (4 + k))]) (by subst had1; simp [va_up]) (by subst had1; simp [va_up]) ?_
  refine g_putRF hX hN (i := (4 + k)) 5 0 q_inX1 (by first | exact hs | (simp; omega) | simp [hs]) (cK_p hk) (by decide) rfl (by decide) rfl q_w5 rfl tyX1_ok nmX1 rfl rfl (ty := .array .int) (by decide +kernel) (x := (some (8 + k))) rfl rfl rfl dX1_init_10 ?_
  exact n_vret hX hE dX1_init_13 (Nat.le_of_ble_eq_true rfl) (Nat.le_of_ble_eq_true rfl) ⟨_, (had1 ▸ AG_new AG_rf (by simp [hf0])), rfl⟩
abbrev rm_X3_init : Room := { frames := 1, cells := 0, slots := 0, locals := 12 }
theorem hd_X3_init : yX3_init.cls ≠ "java/lang/invoke/MethodHandle" ∧ yX3_init.cls ≠ "java/lang/invoke/VarHandle" ∧ (parseMethodDescriptor yX3_init.desc).map (fun d => d.parameters.length) = some 0 := by decide +kernel
set_option maxRecDepth 100000 in
set_option maxHeartbeats 4000000 in
theorem k_X3_init {D : va_G} {dT : Nat → ClassId} (ad : Nat → Nat) (L S : List Nat) (I : Nat → Nat → Int32) (R : Nat → Nat → Option Nat) (hRS : RS R S) (hs : 15 ∈ L) {xw : State → Prop} : ∀ l, NV l yX3_init wsX3_init rm_X3_init D (tyl dT) ad L (pf dT cK cN I R ad) [.ref (ad 15)] 0 0 xw (fun u => ∃ ad2, AG L ad ad2 ∧ u = (ad2, L, pf dT cK cN (up2 (up2 (up2 (up2 (up2 I 15 0 1) 15 1 0) 15 2 100) 15 3 0) 15 4 97) R ad2)) := by
  intro l9
  refine nv_of (own := RX3) (cc := cX3_init) (maxL := 1) [(0, .ref (ad 15))] (by decide) rfl rfl rfl (Nat.le_of_ble_eq_true rfl) ?_
  intro X hX hE hN hSX
  have q_w1 : Cond.methodLink RX3 3 objectInit ∈ wsX3_init := List.mem_of_getElem? (i := 1) rfl
  have q_w2 : Cond.instanceMethod objectInit ∈ wsX3_init := List.mem_of_getElem? (i := 2) rfl
  have q_w3 : Cond.code objectInit ⟨#[0xb1]⟩ 1 none ∈ wsX3_init := List.mem_of_getElem? (i := 3) rfl
  have q_w4 : Cond.fieldLink RX3 9 "Perforatum$Settings" "gap" "I" ∈ wsX3_init := List.mem_of_getElem? (i := 4) rfl
  have q_inX3 : ∀ w ∈ wsX30, w ∈ wsX3_init := by decide +kernel
  have q_w5 : Cond.fieldLink RX3 15 "Perforatum$Settings" "least" "I" ∈ wsX3_init := List.mem_of_getElem? (i := 5) rfl
  have q_w6 : Cond.fieldLink RX3 18 "Perforatum$Settings" "pump" "I" ∈ wsX3_init := List.mem_of_getElem? (i := 6) rfl
  have q_w7 : Cond.fieldLink RX3 21 "Perforatum$Settings" "leak" "I" ∈ wsX3_init := List.mem_of_getElem? (i := 7) rfl
  have q_w8 : Cond.fieldLink RX3 24 "Perforatum$Settings" "maker" "C" ∈ wsX3_init := List.mem_of_getElem? (i := 8) rfl
  refine g_aload_n hX 0 rfl dX3_init_0 rfl ?_
  refine g_objInit hX q_w1 q_w2 q_w3 dX3_init_1 (Nat.le_of_ble_eq_true rfl) (Nat.le_of_ble_eq_true rfl) ?_
  refine g_aload_n hX 0 rfl dX3_init_4 rfl ?_
  refine g_iconst hX (1) dX3_init_5 rfl ?_
  refine g_putI hX (i := 15) 7 0 q_inX3 (by first | exact hs | (simp; omega) | simp [hs]) rfl (by decide) rfl (by decide) rfl q_w4 rfl tyX3_ok nmX3 rfl (ty := .int) (by decide +kernel) rfl rfl dX3_init_6 ?_
  refine g_aload_n hX 0 rfl dX3_init_9 rfl ?_
  refine g_iconst hX (0) dX3_init_10 rfl ?_
  refine g_putI hX (i := 15) 7 1 q_inX3 (by first | exact hs | (simp; omega) | simp [hs]) rfl (by decide) rfl (by decide) rfl q_w5 rfl tyX3_ok nmX3 rfl (ty := .int) (by decide +kernel) rfl rfl dX3_init_11 ?_
  refine g_aload_n hX 0 rfl dX3_init_14 rfl ?_
  refine g_bipush hX (100) dX3_init_15 rfl ?_
  refine g_putI hX (i := 15) 7 2 q_inX3 (by first | exact hs | (simp; omega) | simp [hs]) rfl (by decide) rfl (by decide) rfl q_w6 rfl tyX3_ok nmX3 rfl (ty := .int) (by decide +kernel) rfl rfl dX3_init_17 ?_
  refine g_aload_n hX 0 rfl dX3_init_20 rfl ?_
  refine g_iconst hX (0) dX3_init_21 rfl ?_
  refine g_putI hX (i := 15) 7 3 q_inX3 (by first | exact hs | (simp; omega) | simp [hs]) rfl (by decide) rfl (by decide) rfl q_w7 rfl tyX3_ok nmX3 rfl (ty := .int) (by decide +kernel) rfl rfl dX3_init_22 ?_
  refine g_aload_n hX 0 rfl dX3_init_25 rfl ?_
  refine g_bipush hX (97) dX3_init_26 rfl ?_
  refine g_putI hX (i := 15) 7 4 q_inX3 (by first | exact hs | (simp; omega) | simp [hs]) rfl (by decide) rfl (by decide) rfl q_w8 rfl tyX3_ok nmX3 rfl (ty := .char) (by decide +kernel) rfl rfl dX3_init_28 ?_
  exact n_vret hX hE dX3_init_31 (Nat.le_of_ble_eq_true rfl) (Nat.le_of_ble_eq_true rfl) ⟨_, AG_rf, rfl⟩
abbrev rm_X4_init : Room := { frames := 1, cells := 6, slots := 1512, locals := 12 }
theorem hd_X4_init : yX4_init.cls ≠ "java/lang/invoke/MethodHandle" ∧ yX4_init.cls ≠ "java/lang/invoke/VarHandle" ∧ (parseMethodDescriptor yX4_init.desc).map (fun d => d.parameters.length) = some 0 := by decide +kernel
set_option maxRecDepth 100000 in
set_option maxHeartbeats 4000000 in
theorem k_X4_init {D : va_G} {dT : Nat → ClassId} (ad : Nat → Nat) (L S : List Nat) (I : Nat → Nat → Int32) (R : Nat → Nat → Option Nat) (hRS : RS R S) (hs : 17 ∈ L) (hf0 : 18 ∉ L) (hg0 : 18 ∉ S) (h0_0 : ∀ b, I 18 b = 0) (hr_0 : ∀ b, R 18 b = none) (hf1 : 19 ∉ L) (hg1 : 19 ∉ S) (h0_1 : ∀ b, I 19 b = 0) (hr_1 : ∀ b, R 19 b = none) (hf2 : 20 ∉ L) (hg2 : 20 ∉ S) (h0_2 : ∀ b, I 20 b = 0) (hr_2 : ∀ b, R 20 b = none) (hf3 : 21 ∉ L) (hg3 : 21 ∉ S) (h0_3 : ∀ b, I 21 b = 0) (hr_3 : ∀ b, R 21 b = none) (hf4 : 22 ∉ L) (hg4 : 22 ∉ S) (h0_4 : ∀ b, I 22 b = 0) (hr_4 : ∀ b, R 22 b = none) (hf5 : 23 ∉ L) (hg5 : 23 ∉ S) (h0_5 : ∀ b, I 23 b = 0) (hr_5 : ∀ b, R 23 b = none) {xw : State → Prop} : ∀ l, NV l yX4_init wsX4_init rm_X4_init D (tyl dT) ad L (pf dT cK cN I R ad) [.ref (ad 17)] 6 1512 xw (fun u => ∃ ad2, AG L ad ad2 ∧ u = (ad2, ((((((L ++ [18]) ++ [19]) ++ [20]) ++ [21]) ++ [22]) ++ [23]), pf dT cK cN (up2 I 17 6 0) (up2 (up2 (up2 (up2 (up2 (up2 R 17 0 (some 18)) 17 1 (some 19)) 17 2 (some 20)) 17 3 (some 21)) 17 4 (some 22)) 17 5 (some 23)) ad2)) := by
  intro l9
  refine nv_of (own := RX4) (cc := cX4_init) (maxL := 1) [(0, .ref (ad 17))] (by decide) rfl rfl rfl (Nat.le_of_ble_eq_true rfl) ?_
  intro X hX hE hN hSX
  have q_w1 : Cond.methodLink RX4 3 objectInit ∈ wsX4_init := List.mem_of_getElem? (i := 1) rfl
  have q_w2 : Cond.instanceMethod objectInit ∈ wsX4_init := List.mem_of_getElem? (i := 2) rfl
  have q_w3 : Cond.code objectInit ⟨#[0xb1]⟩ 1 none ∈ wsX4_init := List.mem_of_getElem? (i := 3) rfl
  have q_w4 : Cond.arrayClass .int ∈ wsX4_init := List.mem_of_getElem? (i := 4) rfl
  have q_w5 : Cond.fieldLink RX4 9 "Perforatum$SoundingLog" "notes" "[I" ∈ wsX4_init := List.mem_of_getElem? (i := 5) rfl
  have q_inX4 : ∀ w ∈ wsX40, w ∈ wsX4_init := by decide +kernel
  have q_w6 : Cond.fieldLink RX4 15 "Perforatum$SoundingLog" "openings" "[I" ∈ wsX4_init := List.mem_of_getElem? (i := 6) rfl
  have q_w7 : Cond.fieldLink RX4 18 "Perforatum$SoundingLog" "firsts" "[I" ∈ wsX4_init := List.mem_of_getElem? (i := 7) rfl
  have q_w8 : Cond.fieldLink RX4 21 "Perforatum$SoundingLog" "lasts" "[I" ∈ wsX4_init := List.mem_of_getElem? (i := 8) rfl
  have q_w9 : Cond.fieldLink RX4 24 "Perforatum$SoundingLog" "louds" "[I" ∈ wsX4_init := List.mem_of_getElem? (i := 9) rfl
  have q_w10 : Cond.fieldLink RX4 27 "Perforatum$SoundingLog" "heardTo" "[I" ∈ wsX4_init := List.mem_of_getElem? (i := 10) rfl
  have q_w11 : Cond.fieldLink RX4 30 "Perforatum$SoundingLog" "count" "I" ∈ wsX4_init := List.mem_of_getElem? (i := 11) rfl
  refine g_aload_n hX 0 rfl dX4_init_0 rfl ?_
  refine g_objInit hX q_w1 q_w2 q_w3 dX4_init_1 (Nat.le_of_ble_eq_true rfl) (Nat.le_of_ble_eq_true rfl) ?_
  refine g_aload_n hX 0 rfl dX4_init_4 rfl ?_
  refine g_sipush hX (300) dX4_init_5 rfl ?_
  refine g_newI hX 18 (by simp [hf0]) (RS_no hRS (by simp [hg0])) 300 rfl rfl (fun b => (h0_0 b)) (x := 300) rfl (by decide) q_w4 (Nat.le_of_ble_eq_true rfl) (Nat.le_of_ble_eq_true rfl) dX4_init_8 (fun q_18 => ?_)
  obtain ⟨ad1, had1⟩ : ∃ z, z = va_up ad 18 q_18 := ⟨_, rfl⟩
  rw [← had1]
  refine g_lvs (lv2 := [(0, .ref (ad1 17))]) (st2 := [.ref (ad1 18), .ref (ad1 17)]) (by subst had1; rfl) (by subst had1; rfl) ?_
  refine g_putRF hX hN (i := 17) 8 0 q_inX4 (by first | exact hs | (simp; omega) | simp [hs]) rfl (by decide) rfl (by decide) rfl q_w5 rfl tyX4_ok nmX4 rfl rfl (ty := .array .int) (by decide +kernel) (x := (some 18)) rfl rfl rfl dX4_init_10 ?_
  refine g_aload_n hX 0 rfl dX4_init_13 rfl ?_
  refine g_sipush hX (300) dX4_init_14 rfl ?_
  refine g_newI hX 19 (by simp [hf1]) (RS_no (RS_up hRS) (by simp [hg1])) 300 rfl rfl (fun b => (h0_1 b)) (x := 300) rfl (by decide) q_w4 (Nat.le_of_ble_eq_true rfl) (Nat.le_of_ble_eq_true rfl) dX4_init_17 (fun q_19 => ?_)
  obtain ⟨ad2, had2⟩ : ∃ z, z = va_up ad1 19 q_19 := ⟨_, rfl⟩
  rw [← had2]
  refine g_lvs (lv2 := [(0, .ref (ad2 17))]) (st2 := [.ref (ad2 19), .ref (ad2 17)]) (by subst had2; rfl) (by subst had2; rfl) ?_
  refine g_putRF hX hN (i := 17) 8 1 q_inX4 (by first | exact hs | (simp; omega) | simp [hs]) rfl (by decide) rfl (by decide) rfl q_w6 rfl tyX4_ok nmX4 rfl rfl (ty := .array .int) (by decide +kernel) (x := (some 19)) rfl rfl rfl dX4_init_19 ?_
  refine g_aload_n hX 0 rfl dX4_init_22 rfl ?_
  refine g_sipush hX (300) dX4_init_23 rfl ?_
  refine g_newI hX 20 (by simp [hf2]) (RS_no (RS_up (RS_up hRS)) (by simp [hg2])) 300 rfl rfl (fun b => (h0_2 b)) (x := 300) rfl (by decide) q_w4 (Nat.le_of_ble_eq_true rfl) (Nat.le_of_ble_eq_true rfl) dX4_init_26 (fun q_20 => ?_)
  obtain ⟨ad3, had3⟩ : ∃ z, z = va_up ad2 20 q_20 := ⟨_, rfl⟩
  rw [← had3]
  refine g_lvs (lv2 := [(0, .ref (ad3 17))]) (st2 := [.ref (ad3 20), .ref (ad3 17)]) (by subst had3; rfl) (by subst had3; rfl) ?_
  refine g_putRF hX hN (i := 17) 8 2 q_inX4 (by first | exact hs | (simp; omega) | simp [hs]) rfl (by decide) rfl (by decide) rfl q_w7 rfl tyX4_ok nmX4 rfl rfl (ty := .array .int) (by decide +kernel) (x := (some 20)) rfl rfl rfl dX4_init_28 ?_
  refine g_aload_n hX 0 rfl dX4_init_31 rfl ?_
  refine g_sipush hX (300) dX4_init_32 rfl ?_
  refine g_newI hX 21 (by simp [hf3]) (RS_no (RS_up (RS_up (RS_up hRS))) (by simp [hg3])) 300 rfl rfl (fun b => (h0_3 b)) (x := 300) rfl (by decide) q_w4 (Nat.le_of_ble_eq_true rfl) (Nat.le_of_ble_eq_true rfl) dX4_init_35 (fun q_21 => ?_)
  obtain ⟨ad4, had4⟩ : ∃ z, z = va_up ad3 21 q_21 := ⟨_, rfl⟩
  rw [← had4]
  refine g_lvs (lv2 := [(0, .ref (ad4 17))]) (st2 := [.ref (ad4 21), .ref (ad4 17)]) (by subst had4; rfl) (by subst had4; rfl) ?_
  refine g_putRF hX hN (i := 17) 8 3 q_inX4 (by first | exact hs | (simp; omega) | simp [hs]) rfl (by decide) rfl (by decide) rfl q_w8 rfl tyX4_ok nmX4 rfl rfl (ty := .array .int) (by decide +kernel) (x := (some 21)) rfl rfl rfl dX4_init_37 ?_
  refine g_aload_n hX 0 rfl dX4_init_40 rfl ?_
  refine g_sipush hX (300) dX4_init_41 rfl ?_
  refine g_newI hX 22 (by simp [hf4]) (RS_no (RS_up (RS_up (RS_up (RS_up hRS)))) (by simp [hg4])) 300 rfl rfl (fun b => (h0_4 b)) (x := 300) rfl (by decide) q_w4 (Nat.le_of_ble_eq_true rfl) (Nat.le_of_ble_eq_true rfl) dX4_init_44 (fun q_22 => ?_)
  obtain ⟨ad5, had5⟩ : ∃ z, z = va_up ad4 22 q_22 := ⟨_, rfl⟩
  rw [← had5]
  refine g_lvs (lv2 := [(0, .ref (ad5 17))]) (st2 := [.ref (ad5 22), .ref (ad5 17)]) (by subst had5; rfl) (by subst had5; rfl) ?_
  refine g_putRF hX hN (i := 17) 8 4 q_inX4 (by first | exact hs | (simp; omega) | simp [hs]) rfl (by decide) rfl (by decide) rfl q_w9 rfl tyX4_ok nmX4 rfl rfl (ty := .array .int) (by decide +kernel) (x := (some 22)) rfl rfl rfl dX4_init_46 ?_
  refine g_aload_n hX 0 rfl dX4_init_49 rfl ?_
  refine g_bipush hX (12) dX4_init_50 rfl ?_
  refine g_newI hX 23 (by simp [hf5]) (RS_no (RS_up (RS_up (RS_up (RS_up (RS_up hRS))))) (by simp [hg5])) 12 rfl rfl (fun b => (h0_5 b)) (x := 12) rfl (by decide) q_w4 (Nat.le_of_ble_eq_true rfl) (Nat.le_of_ble_eq_true rfl) dX4_init_52 (fun q_23 => ?_)
  obtain ⟨ad6, had6⟩ : ∃ z, z = va_up ad5 23 q_23 := ⟨_, rfl⟩
  rw [← had6]
  refine g_lvs (lv2 := [(0, .ref (ad6 17))]) (st2 := [.ref (ad6 23), .ref (ad6 17)]) (by subst had6; rfl) (by subst had6; rfl) ?_
  refine g_putRF hX hN (i := 17) 8 5 q_inX4 (by first | exact hs | (simp; omega) | simp [hs]) rfl (by decide) rfl (by decide) rfl q_w10 rfl tyX4_ok nmX4 rfl rfl (ty := .array .int) (by decide +kernel) (x := (some 23)) rfl rfl rfl dX4_init_54 ?_
  refine g_aload_n hX 0 rfl dX4_init_57 rfl ?_
  refine g_iconst hX (0) dX4_init_58 rfl ?_
  refine g_putI hX (i := 17) 8 6 q_inX4 (by first | exact hs | (simp; omega) | simp [hs]) rfl (by decide) rfl (by decide) rfl q_w11 rfl tyX4_ok nmX4 rfl (ty := .int) (by decide +kernel) rfl rfl dX4_init_59 ?_
  exact n_vret hX hE dX4_init_62 (Nat.le_of_ble_eq_true rfl) (Nat.le_of_ble_eq_true rfl) ⟨_, (had6 ▸ AG_new (had5 ▸ AG_new (had4 ▸ AG_new (had3 ▸ AG_new (had2 ▸ AG_new (had1 ▸ AG_new AG_rf (by simp [hf0])) (by simp [hf1])) (by simp [hf2])) (by simp [hf3])) (by simp [hf4])) (by simp [hf5])), rfl⟩
abbrev rm_X5_init : Room := { frames := 1, cells := 0, slots := 0, locals := 12 }
theorem hd_X5_init : yX5_init.cls ≠ "java/lang/invoke/MethodHandle" ∧ yX5_init.cls ≠ "java/lang/invoke/VarHandle" ∧ (parseMethodDescriptor yX5_init.desc).map (fun d => d.parameters.length) = some 1 := by decide +kernel
set_option maxRecDepth 100000 in
set_option maxHeartbeats 4000000 in
theorem k_X5_init {D : va_G} {dT : Nat → ClassId} (ad : Nat → Nat) (L S : List Nat) (I : Nat → Nat → Int32) (R : Nat → Nat → Option Nat) (hRS : RS R S) (k : Nat) (hk : k < 12) (hs : (24 + k) ∈ L) {xw : State → Prop} : ∀ l, NV l yX5_init wsX5_init rm_X5_init D (tyl dT) ad L (pf dT cK cN I R ad) [.ref (ad (24 + k)), .int (nI k)] 0 0 xw (fun u => ∃ ad2, AG L ad ad2 ∧ u = (ad2, L, pf dT cK cN (up2 (up2 (up2 (up2 (up2 (up2 (up2 (up2 (up2 (up2 (up2 I (24 + k) 0 0) (24 + k) 1 0) (24 + k) 2 10) (24 + k) 4 0) (24 + k) 5 0) (24 + k) 6 0) (24 + k) 7 (-1000)) (24 + k) 8 0) (24 + k) 9 0) (24 + k) 10 (-1)) (24 + k) 3 (nI k)) R ad2)) := by
  intro l9
  refine nv_of (own := RX5) (cc := cX5_init) (maxL := 2) [(0, .ref (ad (24 + k))), (1, .int (nI k))] (by decide) rfl rfl rfl (Nat.le_of_ble_eq_true rfl) ?_
  intro X hX hE hN hSX
  have q_w1 : Cond.methodLink RX5 3 objectInit ∈ wsX5_init := List.mem_of_getElem? (i := 1) rfl
  have q_w2 : Cond.instanceMethod objectInit ∈ wsX5_init := List.mem_of_getElem? (i := 2) rfl
  have q_w3 : Cond.code objectInit ⟨#[0xb1]⟩ 1 none ∈ wsX5_init := List.mem_of_getElem? (i := 3) rfl
  have q_w4 : Cond.fieldLink RX5 9 "Perforatum$Valve" "delay" "I" ∈ wsX5_init := List.mem_of_getElem? (i := 4) rfl
  have q_inX5 : ∀ w ∈ wsX50, w ∈ wsX5_init := by decide +kernel
  have q_w5 : Cond.fieldLink RX5 15 "Perforatum$Valve" "rest" "I" ∈ wsX5_init := List.mem_of_getElem? (i := 5) rfl
  have q_w6 : Cond.fieldLink RX5 18 "Perforatum$Valve" "use" "I" ∈ wsX5_init := List.mem_of_getElem? (i := 6) rfl
  have q_w7 : Cond.fieldLink RX5 21 "Perforatum$Valve" "stands" "Z" ∈ wsX5_init := List.mem_of_getElem? (i := 7) rfl
  have q_w8 : Cond.fieldLink RX5 25 "Perforatum$Valve" "opening" "I" ∈ wsX5_init := List.mem_of_getElem? (i := 8) rfl
  have q_w9 : Cond.fieldLink RX5 28 "Perforatum$Valve" "rowsWithout" "I" ∈ wsX5_init := List.mem_of_getElem? (i := 9) rfl
  have q_w10 : Cond.fieldLink RX5 31 "Perforatum$Valve" "closing" "I" ∈ wsX5_init := List.mem_of_getElem? (i := 10) rfl
  have q_w11 : Cond.fieldLink RX5 34 "Perforatum$Valve" "speaks" "Z" ∈ wsX5_init := List.mem_of_getElem? (i := 11) rfl
  have q_w12 : Cond.fieldLink RX5 37 "Perforatum$Valve" "rings" "Z" ∈ wsX5_init := List.mem_of_getElem? (i := 12) rfl
  have q_w13 : Cond.fieldLink RX5 40 "Perforatum$Valve" "kept" "I" ∈ wsX5_init := List.mem_of_getElem? (i := 13) rfl
  have q_w14 : Cond.fieldLink RX5 43 "Perforatum$Valve" "lender" "I" ∈ wsX5_init := List.mem_of_getElem? (i := 14) rfl
  refine g_aload_n hX 0 rfl dX5_init_0 rfl ?_
  refine g_objInit hX q_w1 q_w2 q_w3 dX5_init_1 (Nat.le_of_ble_eq_true rfl) (Nat.le_of_ble_eq_true rfl) ?_
  refine g_aload_n hX 0 rfl dX5_init_4 rfl ?_
  refine g_iconst hX (0) dX5_init_5 rfl ?_
  refine g_putI hX (i := (24 + k)) 9 0 q_inX5 (by first | exact hs | (simp; omega) | simp [hs]) (cK_v hk) (by decide) rfl (by decide) rfl q_w4 rfl tyX5_ok nmX5 rfl (ty := .int) (by decide +kernel) rfl rfl dX5_init_6 ?_
  refine g_aload_n hX 0 rfl dX5_init_9 rfl ?_
  refine g_iconst hX (0) dX5_init_10 rfl ?_
  refine g_putI hX (i := (24 + k)) 9 1 q_inX5 (by first | exact hs | (simp; omega) | simp [hs]) (cK_v hk) (by decide) rfl (by decide) rfl q_w5 rfl tyX5_ok nmX5 rfl (ty := .int) (by decide +kernel) rfl rfl dX5_init_11 ?_
  refine g_aload_n hX 0 rfl dX5_init_14 rfl ?_
  refine g_bipush hX (10) dX5_init_15 rfl ?_
  refine g_putI hX (i := (24 + k)) 9 2 q_inX5 (by first | exact hs | (simp; omega) | simp [hs]) (cK_v hk) (by decide) rfl (by decide) rfl q_w6 rfl tyX5_ok nmX5 rfl (ty := .int) (by decide +kernel) rfl rfl dX5_init_17 ?_
  refine g_aload_n hX 0 rfl dX5_init_20 rfl ?_
  refine g_iconst hX (0) dX5_init_21 rfl ?_
  refine g_putI hX (i := (24 + k)) 9 4 q_inX5 (by first | exact hs | (simp; omega) | simp [hs]) (cK_v hk) (by decide) rfl (by decide) rfl q_w7 rfl tyX5_ok nmX5 rfl (ty := .boolean) (by decide +kernel) rfl rfl dX5_init_22 ?_
  refine g_aload_n hX 0 rfl dX5_init_25 rfl ?_
  refine g_iconst hX (0) dX5_init_26 rfl ?_
  refine g_putI hX (i := (24 + k)) 9 5 q_inX5 (by first | exact hs | (simp; omega) | simp [hs]) (cK_v hk) (by decide) rfl (by decide) rfl q_w8 rfl tyX5_ok nmX5 rfl (ty := .int) (by decide +kernel) rfl rfl dX5_init_27 ?_
  refine g_aload_n hX 0 rfl dX5_init_30 rfl ?_
  refine g_iconst hX (0) dX5_init_31 rfl ?_
  refine g_putI hX (i := (24 + k)) 9 6 q_inX5 (by first | exact hs | (simp; omega) | simp [hs]) (cK_v hk) (by decide) rfl (by decide) rfl q_w9 rfl tyX5_ok nmX5 rfl (ty := .int) (by decide +kernel) rfl rfl dX5_init_32 ?_
  refine g_aload_n hX 0 rfl dX5_init_35 rfl ?_
  refine g_sipush hX (-1000) dX5_init_36 rfl ?_
  refine g_putI hX (i := (24 + k)) 9 7 q_inX5 (by first | exact hs | (simp; omega) | simp [hs]) (cK_v hk) (by decide) rfl (by decide) rfl q_w10 rfl tyX5_ok nmX5 rfl (ty := .int) (by decide +kernel) rfl rfl dX5_init_39 ?_
  refine g_aload_n hX 0 rfl dX5_init_42 rfl ?_
  refine g_iconst hX (0) dX5_init_43 rfl ?_
  refine g_putI hX (i := (24 + k)) 9 8 q_inX5 (by first | exact hs | (simp; omega) | simp [hs]) (cK_v hk) (by decide) rfl (by decide) rfl q_w11 rfl tyX5_ok nmX5 rfl (ty := .boolean) (by decide +kernel) rfl rfl dX5_init_44 ?_
  refine g_aload_n hX 0 rfl dX5_init_47 rfl ?_
  refine g_iconst hX (0) dX5_init_48 rfl ?_
  refine g_putI hX (i := (24 + k)) 9 9 q_inX5 (by first | exact hs | (simp; omega) | simp [hs]) (cK_v hk) (by decide) rfl (by decide) rfl q_w12 rfl tyX5_ok nmX5 rfl (ty := .boolean) (by decide +kernel) rfl rfl dX5_init_49 ?_
  refine g_aload_n hX 0 rfl dX5_init_52 rfl ?_
  refine g_iconst hX (-1) dX5_init_53 rfl ?_
  refine g_putI hX (i := (24 + k)) 9 10 q_inX5 (by first | exact hs | (simp; omega) | simp [hs]) (cK_v hk) (by decide) rfl (by decide) rfl q_w13 rfl tyX5_ok nmX5 rfl (ty := .int) (by decide +kernel) rfl rfl dX5_init_54 ?_
  refine g_aload_n hX 0 rfl dX5_init_57 rfl ?_
  refine g_iload_n hX 1 rfl dX5_init_58 rfl ?_
  refine g_putI hX (i := (24 + k)) 9 3 q_inX5 (by first | exact hs | (simp; omega) | simp [hs]) (cK_v hk) (by decide) rfl (by decide) rfl q_w14 rfl tyX5_ok nmX5 rfl (ty := .int) (by decide +kernel) rfl rfl dX5_init_59 ?_
  exact n_vret hX hE dX5_init_62 (Nat.le_of_ble_eq_true rfl) (Nat.le_of_ble_eq_true rfl) ⟨_, AG_rf, rfl⟩

