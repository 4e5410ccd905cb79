abbrev rm_X6_init : Room := { frames := 3, cells := 35, slots := 2613, locals := 54 }
theorem hd_X6_init : yX6_init.cls ≠ "java/lang/invoke/MethodHandle" ∧ yX6_init.cls ≠ "java/lang/invoke/VarHandle" ∧ (parseMethodDescriptor yX6_init.desc).map (fun d => d.parameters.length) = some 0 := by decide +kernel
set_option maxRecDepth 100000 in
set_option maxHeartbeats 4000000 in
theorem k_X6_init {D : va_G} {dT : Nat → ClassId} (ad : Nat → Nat) : ∀ l, NV l yX6_init wsX6_init rm_X6_init D (tyl dT) ad [0] (pf dT cK cN I0c (fun _ _ => none) ad) [.ref (ad 0)] 35 2613 xcw (fun u => ∃ ad2, AG [0] ad ad2 ∧ ∃ J, u = (ad2, cL, kf dT ad2 J) ∧ INI J) := by
  intro l9
  have hRS0 : RS (fun _ _ => none) [] := fun i k j h => nomatch h
  refine nv_of (own := RX6) (cc := cX6_init) (maxL := 2) [(0, .ref (ad 0))] (by decide) rfl rfl rfl (Nat.le_of_ble_eq_true rfl) ?_
  intro X hX hE hN hSX
  have q_w1 : Cond.methodLink RX6 1 objectInit ∈ wsX6_init := List.mem_of_getElem? (i := 1) rfl
  have q_w2 : Cond.instanceMethod objectInit ∈ wsX6_init := List.mem_of_getElem? (i := 2) rfl
  have q_w3 : Cond.code objectInit ⟨#[0xb1]⟩ 1 none ∈ wsX6_init := List.mem_of_getElem? (i := 3) rfl
  have q_w4 : Cond.classLink RX6 9 "Perforatum$Paper" ∈ wsX6_init := List.mem_of_getElem? (i := 4) rfl
  have q_w5 : Cond.fieldLink RX6 11 "Perforatum" "papers" "[LPerforatum$Paper;" ∈ wsX6_init := List.mem_of_getElem? (i := 5) rfl
  have q_inX6 : ∀ w ∈ wsX60, w ∈ wsX6_init := by decide +kernel
  have q_w6 : Cond.classLink RX6 15 RX0 ∈ wsX6_init := List.mem_of_getElem? (i := 6) rfl
  have q_w7 : Cond.instantiable RX0 4 ∈ wsX6_init := List.mem_of_getElem? (i := 7) rfl
  have q_w8 : Cond.initialized RX0 ∈ wsX6_init := List.mem_of_getElem? (i := 8) rfl
  have q_inX0 : ∀ w ∈ wsX00, w ∈ wsX6_init := by decide +kernel
  have q_w26 : Cond.instanceMethod yX0_init ∈ wsX6_init := List.mem_of_getElem? (i := 26) rfl
  have q_w9 : Cond.fieldLink RX6 18 "Perforatum" "music" "LPerforatum$Music;" ∈ wsX6_init := List.mem_of_getElem? (i := 9) rfl
  have q_w10 : Cond.classLink RX6 22 RX2 ∈ wsX6_init := List.mem_of_getElem? (i := 10) rfl
  have q_w11 : Cond.instantiable RX2 13 ∈ wsX6_init := List.mem_of_getElem? (i := 11) rfl
  have q_w12 : Cond.initialized RX2 ∈ wsX6_init := List.mem_of_getElem? (i := 12) rfl
  have q_inX2 : ∀ w ∈ wsX20, w ∈ wsX6_init := by decide +kernel
  have q_w35 : Cond.instanceMethod yX2_init ∈ wsX6_init := List.mem_of_getElem? (i := 35) rfl
  have q_w34 : Cond.methodLink RX6 24 yX2_init ∈ wsX6_init := List.mem_of_getElem? (i := 34) rfl
  have q_w13 : Cond.fieldLink RX6 25 "Perforatum" "player" "LPerforatum$Player;" ∈ wsX6_init := List.mem_of_getElem? (i := 13) rfl
  have q_w14 : Cond.fieldLink RX6 29 "Perforatum$Player" "settings" "LPerforatum$Settings;" ∈ wsX6_init := List.mem_of_getElem? (i := 14) rfl
  have q_w15 : Cond.fieldLink RX6 33 "Perforatum" "settings" "LPerforatum$Settings;" ∈ wsX6_init := List.mem_of_getElem? (i := 15) rfl
  have q_w16 : Cond.fieldLink RX6 34 "Perforatum$Player" "valves" "[LPerforatum$Valve;" ∈ wsX6_init := List.mem_of_getElem? (i := 16) rfl
  have q_w17 : Cond.fieldLink RX6 38 "Perforatum" "valves" "[LPerforatum$Valve;" ∈ wsX6_init := List.mem_of_getElem? (i := 17) rfl
  have q_w18 : Cond.fieldLink RX6 39 "Perforatum$Player" "log" "LPerforatum$SoundingLog;" ∈ wsX6_init := List.mem_of_getElem? (i := 18) rfl
  have q_w19 : Cond.fieldLink RX6 43 "Perforatum" "log" "LPerforatum$SoundingLog;" ∈ wsX6_init := List.mem_of_getElem? (i := 19) rfl
  have q_w20 : Cond.fieldLink RX6 44 "Perforatum" "paperCount" "I" ∈ wsX6_init := List.mem_of_getElem? (i := 20) rfl
  have q_w21 : Cond.fieldLink RX6 48 "Perforatum" "arrangedRoll" "I" ∈ wsX6_init := List.mem_of_getElem? (i := 21) rfl
  have q_w22 : Cond.fieldLink RX6 51 "Perforatum" "firstSpeed" "I" ∈ wsX6_init := List.mem_of_getElem? (i := 22) rfl
  have q_w23 : Cond.fieldLink RX6 54 "Perforatum" "growth" "I" ∈ wsX6_init := List.mem_of_getElem? (i := 23) rfl
  have q_w24 : Cond.instantiable RX1 1 ∈ wsX6_init := List.mem_of_getElem? (i := 24) rfl
  have q_w25 : Cond.initialized RX1 ∈ wsX6_init := List.mem_of_getElem? (i := 25) rfl
  have q_inX1 : ∀ w ∈ wsX10, w ∈ wsX6_init := by decide +kernel
  have q_w93 : Cond.instanceMethod yX1_init ∈ wsX6_init := List.mem_of_getElem? (i := 93) rfl
  refine g_aload_n hX 0 rfl dX6_init_0 rfl ?_
  refine g_objInit hX q_w1 q_w2 q_w3 dX6_init_1 (Nat.le_of_ble_eq_true rfl) (Nat.le_of_ble_eq_true rfl) ?_
  refine g_aload_n hX 0 rfl dX6_init_4 rfl ?_
  refine g_iconst hX (4) dX6_init_5 rfl ?_
  refine g_newR22 hX 1 (by simp) (RS_no hRS0 (by simp)) 4 rfl rfl (fun b => by simp [up2]) (x := 4) rfl (by decide) q_w4 (hSX.xAO (by simp)) (Nat.le_of_ble_eq_true rfl) (Nat.le_of_ble_eq_true rfl) dX6_init_6 (fun q_1 => ?_)
  obtain ⟨ad1, had1⟩ : ∃ z, z = va_up ad 1 q_1 := ⟨_, rfl⟩
  rw [← had1]
  refine g_lvs (lv2 := [(0, .ref (ad1 0))]) (st2 := [.ref (ad1 1), .ref (ad1 0)]) (by subst had1; rfl) (by subst had1; rfl) ?_
  refine g_putRF hX hN (i := 0) 10 0 q_inX6 (by simp) rfl (by decide) rfl (by decide) rfl q_w5 rfl tyX6_ok nmX6 rfl rfl (ty := .array (.object "Perforatum$Paper")) (by decide +kernel) (x := (some 1)) rfl rfl rfl dX6_init_9 ?_
  refine g_aload_n hX 0 rfl dX6_init_12 rfl ?_
  refine g_new hX 4 2 (by simp) (RS_no (RS_up hRS0) (by simp)) rfl (by decide) (fun b => by simp [up2, I0c]) (fun b => by simp [up2]) q_inX0 tyX0_ok q_w6 q_w7 q_w8 rfl (fun j hj => by rcases (show j = 0 ∨ j = 1 ∨ j = 2 ∨ j = 3 by omega) with rfl | rfl | rfl | rfl <;> rfl) (Nat.le_of_ble_eq_true rfl) (Nat.le_of_ble_eq_true rfl) dX6_init_13 (fun q_2 => ?_)
  obtain ⟨ad2, had2⟩ : ∃ z, z = va_up ad1 2 q_2 := ⟨_, rfl⟩
  rw [← had2]
  refine g_lvs (lv2 := [(0, .ref (ad2 0))]) (st2 := [.ref (ad2 2), .ref (ad2 0)]) (by subst had2; rfl) (by subst had2; rfl) ?_
  refine g_dup hX dX6_init_16 rfl ?_
  refine n_callV_IN hX (xw := fun _ => True) (fun _ _ _ _ => trivial) SX_T (b := 2) [] (k_X0_init ad2 (([0] ++ [1]) ++ [2]) _ I0c (up2 (fun _ _ => none) 0 0 (some 1)) (RS_up hRS0) (by simp) (by simp) (by simp) (fun b => by simp [up2, I0c]) (fun b => by simp [up2]) (by simp) (by simp) (fun b => by simp [up2, I0c]) (fun b => by simp [up2]) (by simp) (by simp) (fun b => by simp [up2, I0c]) (fun b => by simp [up2])) gX6_init_X0_init_n17 rfl rfl rfl q_w8 (hSX.xNL (a := "Perforatum") (i := 17) (hst := "Perforatum") (by simp)) q_w26 rfl hd_X0_init ⟨Nat.le_of_ble_eq_true rfl, Nat.le_of_ble_eq_true rfl⟩ ⟨Nat.le_of_ble_eq_true rfl, Nat.le_of_ble_eq_true rfl⟩ rfl (Nat.le_of_ble_eq_true rfl) dX6_init_17 (fun ad3 L9 f9 hp9 => ?_)
  obtain ⟨ad8, hag3, he9⟩ := hp9
  cases he9
  refine g_lvs (lv2 := [(0, .ref (ad3 0))]) (st2 := [.ref (ad3 2), .ref (ad3 0)]) (by first | rfl | (simp only [hag3 0 (by simp), hag3 2 (by simp)])) (by first | rfl | (simp only [hag3 0 (by simp), hag3 2 (by simp)])) ?_
  refine g_putRF hX hN (i := 0) 10 1 q_inX6 (by simp) rfl (by decide) rfl (by decide) rfl q_w9 rfl tyX6_ok nmX6 rfl rfl (ty := .object "Perforatum$Music") (by decide +kernel) (x := (some 2)) rfl rfl rfl dX6_init_20 ?_
  refine g_aload_n hX 0 rfl dX6_init_23 rfl ?_
  refine g_new hX 6 3 (by simp) (RS_no (RS_up (RS_up (RS_up (RS_up (RS_up hRS0))))) (by simp)) rfl (by decide) (fun b => by simp [up2, I0c]) (fun b => by simp [up2]) q_inX2 tyX2_ok q_w10 q_w11 q_w12 rfl (fun j hj => by rcases (show j = 0 ∨ j = 1 ∨ j = 2 ∨ j = 3 ∨ j = 4 ∨ j = 5 ∨ j = 6 ∨ j = 7 ∨ j = 8 ∨ j = 9 ∨ j = 10 ∨ j = 11 ∨ j = 12 by omega) with rfl | rfl | rfl | rfl | rfl | rfl | rfl | rfl | rfl | rfl | rfl | rfl | rfl <;> rfl) (Nat.le_of_ble_eq_true rfl) (Nat.le_of_ble_eq_true rfl) dX6_init_24 (fun q_3 => ?_)
  obtain ⟨ad4, had4⟩ : ∃ z, z = va_up ad3 3 q_3 := ⟨_, rfl⟩
  rw [← had4]
  refine g_lvs (lv2 := [(0, .ref (ad4 0))]) (st2 := [.ref (ad4 3), .ref (ad4 0)]) (by subst had4; rfl) (by subst had4; rfl) ?_
  refine g_dup hX dX6_init_27 rfl ?_
  refine n_callV_I hX (xw := xcw) xcw_ok hSX (b := 3) [] (k_X2_init ad4 (((((([0] ++ [1]) ++ [2]) ++ [12]) ++ [13]) ++ [14]) ++ [3]) _ (up2 I0c 2 3 0) (up2 (up2 (up2 (up2 (up2 (fun _ _ => none) 0 0 (some 1)) 2 0 (some 12)) 2 1 (some 13)) 2 2 (some 14)) 0 1 (some 2)) (RS_up (RS_up (RS_up (RS_up (RS_up hRS0))))) (by simp) (by intro n hn; simp at hn; omega) (by intro n hn; simp at hn; omega) (fun n h1 h2 b => by rw [up2_row (by omega)]; unfold I0c; exact if_neg (by omega)) (fun n h1 h2 b => by (repeat rw [up2_row (by omega)]))) gX6_init_X2_init rfl rfl rfl q_w12 q_w34 q_w35 rfl hd_X2_init ⟨Nat.le_of_ble_eq_true rfl, Nat.le_of_ble_eq_true rfl⟩ ⟨Nat.le_of_ble_eq_true rfl, Nat.le_of_ble_eq_true rfl⟩ rfl (Nat.le_of_ble_eq_true rfl) dX6_init_28 (fun ad5 L9 f9 hp9 => ?_)
  obtain ⟨ad8, hag5, he9⟩ := hp9
  cases he9
  refine g_lvs (lv2 := [(0, .ref (ad5 0))]) (st2 := [.ref (ad5 3), .ref (ad5 0)]) (by first | rfl | (simp only [hag5 0 (by simp), hag5 3 (by simp)])) (by first | rfl | (simp only [hag5 0 (by simp), hag5 3 (by simp)])) ?_
  obtain ⟨I8, hI8⟩ : ∃ z, z = (viI (up2 (up2 (up2 (up2 (up2 (up2 (up2 (up2 (up2 (up2 (up2 (up2 (up2 (up2 (up2 (up2 I0c 2 3 0) 15 0 1) 15 1 0) 15 2 100) 15 3 0) 15 4 97) 17 6 0) 3 4 0) 3 5 1000) 3 6 3) 3 7 0) 3 8 0) 3 9 0) 3 10 0) 3 11 0) 3 12 0) 12) := ⟨_, rfl⟩
  obtain ⟨R8, hR8⟩ : ∃ z, z = (viR (up2 (up2 (up2 (up2 (up2 (up2 (up2 (up2 (up2 (up2 (up2 (up2 (up2 (up2 (up2 (fun _ _ => none) 0 0 (some 1)) 2 0 (some 12)) 2 1 (some 13)) 2 2 (some 14)) 0 1 (some 2)) 3 0 (some 15)) 3 1 (some 16)) 17 0 (some 18)) 17 1 (some 19)) 17 2 (some 20)) 17 3 (some 21)) 17 4 (some 22)) 17 5 (some 23)) 3 2 (some 17)) 3 3 none) 12) := ⟨_, rfl⟩
  obtain ⟨L8, hL8⟩ : ∃ z, z = (viL ((((((((((((((([0] ++ [1]) ++ [2]) ++ [12]) ++ [13]) ++ [14]) ++ [3]) ++ [15]) ++ [16]) ++ [17]) ++ [18]) ++ [19]) ++ [20]) ++ [21]) ++ [22]) ++ [23]) 12) := ⟨_, rfl⟩
  rw [← hI8, ← hR8, ← hL8]
  have hRS8 : RS R8 (viS (17 :: 23 :: 22 :: 21 :: 20 :: 19 :: 18 :: 16 :: 15 :: (2 :: (14 :: (13 :: (12 :: (1 :: [])))))) 12) := by rw [hR8]; exact viR_S (RS_upN (RS_up (RS_up (RS_up (RS_up (RS_up (RS_up (RS_up (RS_up (RS_up (RS_up (RS_up (RS_up (RS_up (RS_up hRS0))))))))))))))) 12
  have h08 : 0 ∈ L8 := by rw [hL8]; exact (viL_mem 12).mpr (Or.inl (by simp))
  have h18 : 1 ∈ L8 := by rw [hL8]; exact (viL_mem 12).mpr (Or.inl (by simp))
  have h38 : 3 ∈ L8 := by rw [hL8]; exact (viL_mem 12).mpr (Or.inl (by simp))
  have hx8 : ∀ i, (4 ≤ i ∧ i < 12) → i ∉ L8 := fun i hi h => by rw [hL8] at h; rcases (viL_mem 12).mp h with h | ⟨j, h1, h2⟩; simp at h; omega; omega
  refine g_putRF hX hN (i := 0) 10 2 q_inX6 (by first | exact h08 | exact h38 | exact h18) rfl (by decide) rfl (by decide) rfl q_w13 rfl tyX6_ok nmX6 rfl rfl (ty := .object "Perforatum$Player") (by decide +kernel) (x := (some 3)) rfl rfl rfl dX6_init_31 ?_
  refine g_aload_n hX 0 rfl dX6_init_34 rfl ?_
  refine g_aload_n hX 0 rfl dX6_init_35 rfl ?_
  refine g_getRs (i := 0) hX 10 2 q_inX6 (by first | exact h08 | exact h38 | exact h18) rfl (by decide) rfl (by decide) rfl q_w13 rfl (j := 3) (by simp [up2]) dX6_init_36 ?_
  refine g_getRs (i := 3) hX 6 0 q_inX2 (by first | exact h08 | exact h38 | exact h18) rfl (by decide) rfl (by decide) rfl q_w14 rfl (j := 15) (by simp only [up2_row (show (3 : Nat) ≠ 0 by decide)]; rw [hR8, viR_n (by decide)]; simp [up2]) dX6_init_39 ?_
  refine g_putRF hX hN (i := 0) 10 3 q_inX6 (by first | exact h08 | exact h38 | exact h18) rfl (by decide) rfl (by decide) rfl q_w15 rfl tyX6_ok nmX6 rfl rfl (ty := .object "Perforatum$Settings") (by decide +kernel) (x := (some 15)) rfl rfl rfl dX6_init_42 ?_
  refine g_aload_n hX 0 rfl dX6_init_45 rfl ?_
  refine g_aload_n hX 0 rfl dX6_init_46 rfl ?_
  refine g_getRs (i := 0) hX 10 2 q_inX6 (by first | exact h08 | exact h38 | exact h18) rfl (by decide) rfl (by decide) rfl q_w13 rfl (j := 3) (by simp [up2]) dX6_init_47 ?_
  refine g_getRs (i := 3) hX 6 1 q_inX2 (by first | exact h08 | exact h38 | exact h18) rfl (by decide) rfl (by decide) rfl q_w16 rfl (j := 16) (by simp only [up2_row (show (3 : Nat) ≠ 0 by decide)]; rw [hR8, viR_n (by decide)]; simp [up2]) dX6_init_50 ?_
  refine g_putRF hX hN (i := 0) 10 4 q_inX6 (by first | exact h08 | exact h38 | exact h18) rfl (by decide) rfl (by decide) rfl q_w17 rfl tyX6_ok nmX6 rfl rfl (ty := .array (.object "Perforatum$Valve")) (by decide +kernel) (x := (some 16)) rfl rfl rfl dX6_init_53 ?_
  refine g_aload_n hX 0 rfl dX6_init_56 rfl ?_
  refine g_aload_n hX 0 rfl dX6_init_57 rfl ?_
  refine g_getRs (i := 0) hX 10 2 q_inX6 (by first | exact h08 | exact h38 | exact h18) rfl (by decide) rfl (by decide) rfl q_w13 rfl (j := 3) (by simp [up2]) dX6_init_58 ?_
  refine g_getRs (i := 3) hX 6 2 q_inX2 (by first | exact h08 | exact h38 | exact h18) rfl (by decide) rfl (by decide) rfl q_w18 rfl (j := 17) (by simp only [up2_row (show (3 : Nat) ≠ 0 by decide)]; rw [hR8, viR_n (by decide)]; simp [up2]) dX6_init_61 ?_
  refine g_putRF hX hN (i := 0) 10 5 q_inX6 (by first | exact h08 | exact h38 | exact h18) rfl (by decide) rfl (by decide) rfl q_w19 rfl tyX6_ok nmX6 rfl rfl (ty := .object "Perforatum$SoundingLog") (by decide +kernel) (x := (some 17)) rfl rfl rfl dX6_init_64 ?_
  refine g_aload_n hX 0 rfl dX6_init_67 rfl ?_
  refine g_iconst hX (0) dX6_init_68 rfl ?_
  refine g_putI hX (i := 0) 10 6 q_inX6 (by first | exact h08 | exact h38 | exact h18) rfl (by decide) rfl (by decide) rfl q_w20 rfl tyX6_ok nmX6 rfl (ty := .int) (by decide +kernel) rfl rfl dX6_init_69 ?_
  refine g_aload_n hX 0 rfl dX6_init_72 rfl ?_
  refine g_iconst hX (-1) dX6_init_73 rfl ?_
  refine g_putI hX (i := 0) 10 7 q_inX6 (by first | exact h08 | exact h38 | exact h18) rfl (by decide) rfl (by decide) rfl q_w21 rfl tyX6_ok nmX6 rfl (ty := .int) (by decide +kernel) rfl rfl dX6_init_74 ?_
  refine g_aload_n hX 0 rfl dX6_init_77 rfl ?_
  refine g_sipush hX (400) dX6_init_78 rfl ?_
  refine g_putI hX (i := 0) 10 8 q_inX6 (by first | exact h08 | exact h38 | exact h18) rfl (by decide) rfl (by decide) rfl q_w22 rfl tyX6_ok nmX6 rfl (ty := .int) (by decide +kernel) rfl rfl dX6_init_81 ?_
  refine g_aload_n hX 0 rfl dX6_init_84 rfl ?_
  refine g_iconst hX (0) dX6_init_85 rfl ?_
  refine g_putI hX (i := 0) 10 9 q_inX6 (by first | exact h08 | exact h38 | exact h18) rfl (by decide) rfl (by decide) rfl q_w23 rfl tyX6_ok nmX6 rfl (ty := .int) (by decide +kernel) rfl rfl dX6_init_86 ?_
  refine g_iconst hX (0) dX6_init_89 rfl ?_
  refine g_istore_n hX [(1, .int 0), (0, .ref (ad5 0))] rfl dX6_init_90 rfl (by decide) ?_
  obtain ⟨I9, hI9⟩ : ∃ z, z = (up2 (up2 (up2 (up2 I8 0 6 0) 0 7 (-1)) 0 8 400) 0 9 0) := ⟨_, rfl⟩
  obtain ⟨R9, hR9⟩ : ∃ z, z = (up2 (up2 (up2 (up2 R8 0 2 (some 3)) 0 3 (some 15)) 0 4 (some 16)) 0 5 (some 17)) := ⟨_, rfl⟩
  have hRS9 : RS R9 (17 :: (16 :: (15 :: (3 :: (viS (17 :: 23 :: 22 :: 21 :: 20 :: 19 :: 18 :: 16 :: 15 :: (2 :: (14 :: (13 :: (12 :: (1 :: [])))))) 12))))) := by rw [hR9]; exact (RS_up (RS_up (RS_up (RS_up hRS8))))
  have hag9 : AG [0] ad ad5 := (AG_tr (had4 ▸ AG_new (AG_tr (had2 ▸ AG_new (had1 ▸ AG_new AG_rf (by simp)) (by simp)) hag3 (by intro i hi; first | (simp at hi ⊢; omega) | (simp [hi]))) (by simp)) hag5 (by intro i hi; first | (simp at hi ⊢; omega) | (simp [hi])))
  rw [← hI9, ← hR9]
  have hgS9 : ∀ n, 4 ≤ n → n < 12 → n ∉ (17 :: (16 :: (15 :: (3 :: (viS (17 :: 23 :: 22 :: 21 :: 20 :: 19 :: 18 :: 16 :: 15 :: (2 :: (14 :: (13 :: (12 :: (1 :: [])))))) 12))))) := fun n h1 h2 h => by simp [viS_mem] at h; omega
  have lp : ∀ (n9 : Nat) (k : Nat) (ad9 : Nat → Nat), 4 - k < n9 → k ≤ 4 → AG L8 ad5 ad9 → GG X D ad9 (paL L8 k) (pf dT cK cN I9 (paR R9 k) ad9) [(1, .int (nI k)), (0, .ref (ad9 0))] (27 + 2 * k) (1809 + 201 * k) 91 [] := by
    intro n9
    induction n9 with
    | zero => intro k ad9 h9; exact absurd h9 (Nat.not_lt_zero _)
    | succ n9 ih9 =>
      intro k ad9 h9 hk hag
      refine g_iload_n hX 0 rfl dX6_init_91 rfl ?_
      refine g_iconst hX (4) dX6_init_92 rfl ?_
      refine g_icmp_ge (tgt := 115) hX dX6_init_93 (by decide) (fun c_93 => ?_) (fun c_93 => ?_)
      · have c_93 : 4 ≤ k := (nI_leI (a := 4) (b := k) (by omega) (by omega)).mp c_93
        have e4 : k = 4 := by omega
        subst e4
        refine g_L (L2 := cL) (fun i hi => ?_) List.nodup_range ?_
        · have h36 : i < 36 := List.mem_range.mp hi
          rw [paL_mem]; exact cl_all hL8 h36
        refine g_f (g := kf dT ad9 I9) (fun i hi => ?_) ?_
        · show pf dT cK cN I9 (paR R9 4) ad9 i = pf dT cK cN I9 (cR I9) ad9 i
          unfold pf
          rw [show paR R9 4 i = cR I9 i from cr_all hR9 hR8 (by rw [hI9]; exact i99_all hI8) (List.mem_range.mp hi)]
        exact n_vret hX hE dX6_init_115 (by omega) (by omega) ⟨ad9, AG_tr hag9 hag (fun i hi => by simp at hi; rw [hi]; exact h08), I9, rfl, ini_all hI9 hI8⟩
      · have c_93 : ¬ 4 ≤ k := fun h9 => c_93 ((nI_leI (a := 4) (b := k) (by omega) (by omega)).mpr h9)
        have hk4 : k < 4 := by omega
        refine g_aload_n hX 1 rfl dX6_init_96 rfl ?_
        refine g_getRs (i := 0) hX 10 0 q_inX6 (by first | exact (paL_mem k).mpr (Or.inl h08) | exact (paL_mem k).mpr (Or.inl h18) | simp [paL_mem, h08, h18]) rfl (by decide) rfl (by decide) rfl q_w5 rfl (j := 1) (by rw [paR_n (by decide) k (fun j hj => by omega), hR9, hR8]; simp [up2, viR_n]) dX6_init_97 ?_
        refine g_iload_n hX 0 rfl dX6_init_100 rfl ?_
        refine g_new hX 5 (4 + k) (fun h => by rcases (paL_mem k).mp h with h | ⟨j, h1, h2⟩ | ⟨j, h1, h2⟩; exact hx8 _ (by omega) h; omega; omega) (RS_no (paR_S hRS9 k) (fun h => by rcases paS_mem k h with h | ⟨j, h1, h2⟩ | ⟨j, h1, h2⟩; exact hgS9 _ (by omega) (by omega) h; omega; omega)) (cK_p hk4) (by decide) (fun b => i0_all hI9 hI8 (by omega)) (fun b => by rw [paR_n (by omega) k (fun j hj => by omega), hR9]; exact r0_all hR8 (by omega)) q_inX1 tyX1_ok q_w4 q_w24 q_w25 rfl (fun j hj => by rcases (show j = 0 by omega) with rfl <;> rfl) (by simp only [rm_X6_init]; omega) (by simp only [rm_X6_init]; omega) dX6_init_101 (fun q_4k => ?_)
        obtain ⟨ad6, had6⟩ : ∃ z, z = va_up ad9 (4 + k) q_4k := ⟨_, rfl⟩
        rw [← had6]
        refine g_lvs (lv2 := [(1, .int (nI k)), (0, .ref (ad6 0))]) (st2 := [.ref (ad6 (4 + k)), .int (nI k), .ref (ad6 1)]) (by subst had6; simp [va_up, show ¬ (0 = 4 + k) by omega, show ¬ (1 = 4 + k) by omega]) (by subst had6; simp [va_up, show ¬ (0 = 4 + k) by omega, show ¬ (1 = 4 + k) by omega]) ?_
        refine g_dup hX dX6_init_104 rfl ?_
        refine n_callV_IN hX (xw := fun _ => True) (fun _ _ _ _ => trivial) SX_T (b := (4 + k)) [] (k_X1_init ad6 ((paL L8 k) ++ [(4 + k)]) _ I9 (paR R9 k) (paR_S hRS9 k) k hk4 (by first | exact (paL_mem k).mpr (Or.inl h08) | exact (paL_mem k).mpr (Or.inl h18) | simp [paL_mem, h08, h18]) (fun h => by rcases List.mem_append.mp h with h | h; (rcases (paL_mem k).mp h with h | ⟨j, h1, h2⟩ | ⟨j, h1, h2⟩; exact hx8 (8 + k) (by omega) h; omega; omega); exact absurd (List.mem_singleton.mp h) (by omega)) (fun h => by rcases paS_mem k h with h | ⟨j, h1, h2⟩ | ⟨j, h1, h2⟩; exact hgS9 _ (by omega) (by omega) h; omega; omega) (fun b => i0_all hI9 hI8 (by omega)) (fun b => by rw [paR_n (by omega) k (fun j hj => by omega), hR9]; exact r0_all hR8 (by omega))) gX6_init_X1_init_n57 rfl rfl rfl q_w25 (hSX.xNL (a := "Perforatum") (i := 57) (hst := "Perforatum") (by simp)) q_w93 rfl hd_X1_init ⟨Nat.le_of_ble_eq_true rfl, Nat.le_of_ble_eq_true rfl⟩ ⟨by simp only [rm_X6_init]; omega, by simp only [rm_X6_init]; omega⟩ rfl (Nat.le_of_ble_eq_true rfl) dX6_init_105 (fun ad7 L9 f9 hp9 => ?_)
        obtain ⟨ad8, hag7, he9⟩ := hp9
        cases he9
        refine g_lvs (lv2 := [(1, .int (nI k)), (0, .ref (ad7 0))]) (st2 := [.ref (ad7 (4 + k)), .int (nI k), .ref (ad7 1)]) (by first | rfl | (simp only [hag7 0 (by simp [paL_mem, h08]), hag7 1 (by simp [paL_mem, h18]), hag7 (4 + k) (by simp)])) (by first | rfl | (simp only [hag7 0 (by simp [paL_mem, h08]), hag7 1 (by simp [paL_mem, h18]), hag7 (4 + k) (by simp)])) ?_
        refine g_aast22 (i := 1) (v := (4 + k)) hX rfl (by first | exact (paL_mem k).mpr (Or.inl h08) | exact (paL_mem k).mpr (Or.inl h18) | simp [paL_mem, h08, h18]) rfl (by first | exact (paL_mem k).mpr (Or.inl h08) | exact (paL_mem k).mpr (Or.inl h18) | simp [paL_mem, h08, h18]) (cK_p hk4) (g_vin hk4 (by decide)) dX6_init_108 ?_
        rw [nI_clamp (by omega)]
        refine g_iinc hX (nI (k + 1)) [(1, .int (nI (k + 1))), (0, .ref (ad7 0))] (k := 0) rfl (g_inc k) rfl dX6_init_109 (by decide) ?_
        refine g_goto (tgt := 91) hX dX6_init_112 (by decide) ?_
        refine g_widen (k := 27 + 2 * (k + 1)) (n := 1809 + 201 * (k + 1)) (by omega) (by omega) ?_
        exact ih9 (k + 1) ad7 (by omega) (by omega) (AG_tr hag (AG_tr (had6 ▸ AG_new AG_rf (fun h => by rcases (paL_mem k).mp h with h | ⟨j, h1, h2⟩ | ⟨j, h1, h2⟩; exact hx8 _ (by omega) h; omega; omega)) hag7 (by intro i hi; first | (simp at hi ⊢; omega) | (simp [hi]))) (fun i hi => (paL_mem k).mpr (Or.inl hi)))
  exact lp _ 0 ad5 (Nat.lt_succ_self _) (Nat.zero_le _) AG_rf

