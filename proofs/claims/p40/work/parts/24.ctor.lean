abbrev rm_X2_init : Room := { frames := 2, cells := 21, slots := 1668, locals := 33 }
theorem hd_X2_init : yX2_init.cls ≠ "java/lang/invoke/MethodHandle" ∧ yX2_init.cls ≠ "java/lang/invoke/VarHandle" ∧ (parseMethodDescriptor yX2_init.desc).map (fun d => d.parameters.length) = some 0 := by decide +kernel
set_option maxRecDepth 100000 in
set_option maxHeartbeats 4000000 in
theorem k_X2_init {D : va_G} {dT : Nat → ClassId} (ad : Nat → Nat) (L S : List Nat) (I : Nat → Nat → Int32) (R : Nat → Nat → Option Nat) (hRS : RS R S) (hs : 3 ∈ L) (hf : ∀ n ∈ L, n < 15) (hg : ∀ n ∈ S, n < 15) (h0 : ∀ n, 15 ≤ n → n < 36 → ∀ b, I n b = 0) (hr0 : ∀ n, 15 ≤ n → n < 36 → ∀ b, R n b = none) : ∀ l, NV l yX2_init wsX2_init rm_X2_init D (tyl dT) ad L (pf dT cK cN I R ad) [.ref (ad 3)] 21 1668 xcw (fun u => ∃ ad2, AG L ad ad2 ∧ u = (ad2, viL (((((((((L ++ [15]) ++ [16]) ++ [17]) ++ [18]) ++ [19]) ++ [20]) ++ [21]) ++ [22]) ++ [23]) 12, pf dT cK cN (viI (up2 (up2 (up2 (up2 (up2 (up2 (up2 (up2 (up2 (up2 (up2 (up2 (up2 (up2 (up2 I 15 0 1) 15 1 0) 15 2 100) 15 3 0) 15 4 97) 17 6 0) 3 4 0) 3 5 1000) 3 6 3) 3 7 0) 3 8 0) 3 9 0) 3 10 0) 3 11 0) 3 12 0) 12) (viR (up2 (up2 (up2 (up2 (up2 (up2 (up2 (up2 (up2 (up2 R 3 0 (some 15)) 3 1 (some 16)) 17 0 (some 18)) 17 1 (some 19)) 17 2 (some 20)) 17 3 (some 21)) 17 4 (some 22)) 17 5 (some 23)) 3 2 (some 17)) 3 3 none) 12) ad2)) := by
  intro l9
  have hfn : ∀ n, 15 ≤ n → n ∉ L := fun n h hm => absurd (hf n hm) (by omega)
  have hgn : ∀ n, 15 ≤ n → n ∉ S := fun n h hm => absurd (hg n hm) (by omega)
  refine nv_of (own := RX2) (cc := cX2_init) (maxL := 2) [(0, .ref (ad 3))] (by decide) rfl rfl rfl (Nat.le_of_ble_eq_true rfl) ?_
  intro X hX hE hN hSX
  have q_w1 : Cond.methodLink RX2 3 objectInit ∈ wsX2_init := List.mem_of_getElem? (i := 1) rfl
  have q_w2 : Cond.instanceMethod objectInit ∈ wsX2_init := List.mem_of_getElem? (i := 2) rfl
  have q_w3 : Cond.code objectInit ⟨#[0xb1]⟩ 1 none ∈ wsX2_init := List.mem_of_getElem? (i := 3) rfl
  have q_w4 : Cond.classLink RX2 9 RX3 ∈ wsX2_init := List.mem_of_getElem? (i := 4) rfl
  have q_w5 : Cond.instantiable RX3 5 ∈ wsX2_init := List.mem_of_getElem? (i := 5) rfl
  have q_w6 : Cond.initialized RX3 ∈ wsX2_init := List.mem_of_getElem? (i := 6) rfl
  have q_inX3 : ∀ w ∈ wsX30, w ∈ wsX2_init := by decide +kernel
  have q_w26 : Cond.instanceMethod yX3_init ∈ wsX2_init := List.mem_of_getElem? (i := 26) rfl
  have q_w7 : Cond.fieldLink RX2 12 "Perforatum$Player" "settings" "LPerforatum$Settings;" ∈ wsX2_init := List.mem_of_getElem? (i := 7) rfl
  have q_inX2 : ∀ w ∈ wsX20, w ∈ wsX2_init := by decide +kernel
  have q_w8 : Cond.classLink RX2 18 "Perforatum$Valve" ∈ wsX2_init := List.mem_of_getElem? (i := 8) rfl
  have q_w9 : Cond.fieldLink RX2 20 "Perforatum$Player" "valves" "[LPerforatum$Valve;" ∈ wsX2_init := List.mem_of_getElem? (i := 9) rfl
  have q_w10 : Cond.classLink RX2 24 RX4 ∈ wsX2_init := List.mem_of_getElem? (i := 10) rfl
  have q_w11 : Cond.instantiable RX4 7 ∈ wsX2_init := List.mem_of_getElem? (i := 11) rfl
  have q_w12 : Cond.initialized RX4 ∈ wsX2_init := List.mem_of_getElem? (i := 12) rfl
  have q_inX4 : ∀ w ∈ wsX40, w ∈ wsX2_init := by decide +kernel
  have q_w34 : Cond.instanceMethod yX4_init ∈ wsX2_init := List.mem_of_getElem? (i := 34) rfl
  have q_w13 : Cond.fieldLink RX2 27 "Perforatum$Player" "log" "LPerforatum$SoundingLog;" ∈ wsX2_init := List.mem_of_getElem? (i := 13) rfl
  have q_w14 : Cond.fieldLink RX2 31 "Perforatum$Player" "paper" "LPerforatum$Paper;" ∈ wsX2_init := List.mem_of_getElem? (i := 14) rfl
  have q_w15 : Cond.fieldLink RX2 35 "Perforatum$Player" "nextRow" "I" ∈ wsX2_init := List.mem_of_getElem? (i := 15) rfl
  have q_w16 : Cond.fieldLink RX2 39 "Perforatum$Player" "vacuum" "I" ∈ wsX2_init := List.mem_of_getElem? (i := 16) rfl
  have q_w17 : Cond.fieldLink RX2 42 "Perforatum$Player" "strength" "I" ∈ wsX2_init := List.mem_of_getElem? (i := 17) rfl
  have q_w18 : Cond.fieldLink RX2 45 "Perforatum$Player" "shift" "I" ∈ wsX2_init := List.mem_of_getElem? (i := 18) rfl
  have q_w19 : Cond.fieldLink RX2 48 "Perforatum$Player" "openings" "I" ∈ wsX2_init := List.mem_of_getElem? (i := 19) rfl
  have q_w20 : Cond.fieldLink RX2 51 "Perforatum$Player" "beginnings" "I" ∈ wsX2_init := List.mem_of_getElem? (i := 20) rfl
  have q_w21 : Cond.fieldLink RX2 54 "Perforatum$Player" "isLatched" "Z" ∈ wsX2_init := List.mem_of_getElem? (i := 21) rfl
  have q_w22 : Cond.fieldLink RX2 58 "Perforatum$Player" "isPedalDown" "Z" ∈ wsX2_init := List.mem_of_getElem? (i := 22) rfl
  have q_w23 : Cond.fieldLink RX2 61 "Perforatum$Player" "readAhead" "I" ∈ wsX2_init := List.mem_of_getElem? (i := 23) rfl
  have q_w24 : Cond.instantiable RX5 11 ∈ wsX2_init := List.mem_of_getElem? (i := 24) rfl
  have q_w25 : Cond.initialized RX5 ∈ wsX2_init := List.mem_of_getElem? (i := 25) rfl
  have q_inX5 : ∀ w ∈ wsX50, w ∈ wsX2_init := by decide +kernel
  have q_w46 : Cond.instanceMethod yX5_init ∈ wsX2_init := List.mem_of_getElem? (i := 46) rfl
  have q_w45 : Cond.methodLink RX2 64 yX5_init ∈ wsX2_init := List.mem_of_getElem? (i := 45) rfl
  refine g_aload_n hX 0 rfl dX2_init_0 rfl ?_
  refine g_objInit hX q_w1 q_w2 q_w3 dX2_init_1 (Nat.le_of_ble_eq_true rfl) (Nat.le_of_ble_eq_true rfl) ?_
  refine g_aload_n hX 0 rfl dX2_init_4 rfl ?_
  refine g_new hX 7 15 (by simp [hfn 15 (by omega)]) (RS_no hRS (by simp [hgn 15 (by omega)])) rfl (by decide) (fun b => by simp [up2, h0 15 (by omega) (by omega)]) (fun b => by simp [up2, hr0 15 (by omega) (by omega)]) q_inX3 tyX3_ok q_w4 q_w5 q_w6 rfl (fun j hj => by rcases (show j = 0 ∨ j = 1 ∨ j = 2 ∨ j = 3 ∨ j = 4 by omega) with rfl | rfl | rfl | rfl | rfl <;> rfl) (Nat.le_of_ble_eq_true rfl) (Nat.le_of_ble_eq_true rfl) dX2_init_5 (fun q_15 => ?_)
  obtain ⟨ad1, had1⟩ : ∃ z, z = va_up ad 15 q_15 := ⟨_, rfl⟩
  rw [← had1]
  refine g_lvs (lv2 := [(0, .ref (ad1 3))]) (st2 := [.ref (ad1 15), .ref (ad1 3)]) (by subst had1; rfl) (by subst had1; rfl) ?_
  refine g_dup hX dX2_init_8 rfl ?_
  refine n_callV_IN hX (xw := fun _ => True) (fun _ _ _ _ => trivial) SX_T (b := 15) [] (k_X3_init ad1 (L ++ [15]) _ I R hRS (by simp [hs]) ) gX2_init_X3_init_n11 rfl rfl rfl q_w6 (hSX.xNL (a := "Perforatum$Player") (i := 11) (hst := "Perforatum") (by simp)) q_w26 rfl hd_X3_init ⟨Nat.le_of_ble_eq_true rfl, Nat.le_of_ble_eq_true rfl⟩ ⟨Nat.le_of_ble_eq_true rfl, Nat.le_of_ble_eq_true rfl⟩ rfl (Nat.le_of_ble_eq_true rfl) dX2_init_9 (fun ad2 L9 f9 hp9 => ?_)
  obtain ⟨ad8, hag2, he9⟩ := hp9
  cases he9
  refine g_lvs (lv2 := [(0, .ref (ad2 3))]) (st2 := [.ref (ad2 15), .ref (ad2 3)]) (by first | rfl | (simp only [hag2 15 (by simp [hs]), hag2 3 (by simp [hs])])) (by first | rfl | (simp only [hag2 15 (by simp [hs]), hag2 3 (by simp [hs])])) ?_
  refine g_putRF hX hN (i := 3) 6 0 q_inX2 (by simp [hs]) rfl (by decide) rfl (by decide) rfl q_w7 rfl tyX2_ok nmX2 rfl rfl (ty := .object "Perforatum$Settings") (by decide +kernel) (x := (some 15)) rfl rfl rfl dX2_init_12 ?_
  refine g_aload_n hX 0 rfl dX2_init_15 rfl ?_
  refine g_bipush hX (12) dX2_init_16 rfl ?_
  refine g_newR23 hX 16 (by simp [hfn 16 (by omega)]) (RS_no (RS_up hRS) (by simp [hgn 16 (by omega)])) 12 rfl rfl (fun b => by simp [up2, hr0 16 (by omega) (by omega)]) (x := 12) rfl (by decide) q_w8 (hSX.xAO (by simp)) (Nat.le_of_ble_eq_true rfl) (Nat.le_of_ble_eq_true rfl) dX2_init_18 (fun q_16 => ?_)
  obtain ⟨ad3, had3⟩ : ∃ z, z = va_up ad2 16 q_16 := ⟨_, rfl⟩
  rw [← had3]
  refine g_lvs (lv2 := [(0, .ref (ad3 3))]) (st2 := [.ref (ad3 16), .ref (ad3 3)]) (by subst had3; rfl) (by subst had3; rfl) ?_
  refine g_putRF hX hN (i := 3) 6 1 q_inX2 (by simp [hs]) rfl (by decide) rfl (by decide) rfl q_w9 rfl tyX2_ok nmX2 rfl rfl (ty := .array (.object "Perforatum$Valve")) (by decide +kernel) (x := (some 16)) rfl rfl rfl dX2_init_21 ?_
  refine g_aload_n hX 0 rfl dX2_init_24 rfl ?_
  refine g_new hX 8 17 (by simp [hfn 17 (by omega)]) (RS_no (RS_up (RS_up hRS)) (by simp [hgn 17 (by omega)])) rfl (by decide) (fun b => by simp [up2, h0 17 (by omega) (by omega)]) (fun b => by simp [up2, hr0 17 (by omega) (by omega)]) q_inX4 tyX4_ok q_w10 q_w11 q_w12 rfl (fun j hj => by rcases (show j = 0 ∨ j = 1 ∨ j = 2 ∨ j = 3 ∨ j = 4 ∨ j = 5 ∨ j = 6 by omega) with rfl | rfl | rfl | rfl | rfl | rfl | rfl <;> rfl) (Nat.le_of_ble_eq_true rfl) (Nat.le_of_ble_eq_true rfl) dX2_init_25 (fun q_17 => ?_)
  obtain ⟨ad4, had4⟩ : ∃ z, z = va_up ad3 17 q_17 := ⟨_, rfl⟩
  rw [← had4]
  refine g_lvs (lv2 := [(0, .ref (ad4 3))]) (st2 := [.ref (ad4 17), .ref (ad4 3)]) (by subst had4; rfl) (by subst had4; rfl) ?_
  refine g_dup hX dX2_init_28 rfl ?_
  refine n_callV_IN hX (xw := fun _ => True) (fun _ _ _ _ => trivial) SX_T (b := 17) [] (k_X4_init ad4 (((L ++ [15]) ++ [16]) ++ [17]) _ (up2 (up2 (up2 (up2 (up2 I 15 0 1) 15 1 0) 15 2 100) 15 3 0) 15 4 97) (up2 (up2 R 3 0 (some 15)) 3 1 (some 16)) (RS_up (RS_up hRS)) (by simp [hs]) (by simp [hfn 18 (by omega)]) (by simp [hgn 18 (by omega)]) (fun b => by simp [up2, h0 18 (by omega) (by omega)]) (fun b => by simp [up2, hr0 18 (by omega) (by omega)]) (by simp [hfn 19 (by omega)]) (by simp [hgn 19 (by omega)]) (fun b => by simp [up2, h0 19 (by omega) (by omega)]) (fun b => by simp [up2, hr0 19 (by omega) (by omega)]) (by simp [hfn 20 (by omega)]) (by simp [hgn 20 (by omega)]) (fun b => by simp [up2, h0 20 (by omega) (by omega)]) (fun b => by simp [up2, hr0 20 (by omega) (by omega)]) (by simp [hfn 21 (by omega)]) (by simp [hgn 21 (by omega)]) (fun b => by simp [up2, h0 21 (by omega) (by omega)]) (fun b => by simp [up2, hr0 21 (by omega) (by omega)]) (by simp [hfn 22 (by omega)]) (by simp [hgn 22 (by omega)]) (fun b => by simp [up2, h0 22 (by omega) (by omega)]) (fun b => by simp [up2, hr0 22 (by omega) (by omega)]) (by simp [hfn 23 (by omega)]) (by simp [hgn 23 (by omega)]) (fun b => by simp [up2, h0 23 (by omega) (by omega)]) (fun b => by simp [up2, hr0 23 (by omega) (by omega)])) gX2_init_X4_init_n26 rfl rfl rfl q_w12 (hSX.xNL (a := "Perforatum$Player") (i := 26) (hst := "Perforatum") (by simp)) q_w34 rfl hd_X4_init ⟨Nat.le_of_ble_eq_true rfl, Nat.le_of_ble_eq_true rfl⟩ ⟨Nat.le_of_ble_eq_true rfl, Nat.le_of_ble_eq_true rfl⟩ rfl (Nat.le_of_ble_eq_true rfl) dX2_init_29 (fun ad5 L9 f9 hp9 => ?_)
  obtain ⟨ad8, hag5, he9⟩ := hp9
  cases he9
  refine g_lvs (lv2 := [(0, .ref (ad5 3))]) (st2 := [.ref (ad5 17), .ref (ad5 3)]) (by first | rfl | (simp only [hag5 17 (by simp [hs]), hag5 3 (by simp [hs])])) (by first | rfl | (simp only [hag5 17 (by simp [hs]), hag5 3 (by simp [hs])])) ?_
  refine g_putRF hX hN (i := 3) 6 2 q_inX2 (by simp [hs]) rfl (by decide) rfl (by decide) rfl q_w13 rfl tyX2_ok nmX2 rfl rfl (ty := .object "Perforatum$SoundingLog") (by decide +kernel) (x := (some 17)) rfl rfl rfl dX2_init_32 ?_
  refine g_aload_n hX 0 rfl dX2_init_35 rfl ?_
  refine g_null hX dX2_init_36 ?_
  refine g_putR hX (i := 3) 6 3 q_inX2 (by simp [hs]) rfl (by decide) rfl (by decide) rfl q_w14 rfl tyX2_ok nmX2 rfl (ty := .object "Perforatum$Paper") (by decide +kernel) (x := none) rfl rfl rfl dX2_init_37 ?_
  refine g_aload_n hX 0 rfl dX2_init_40 rfl ?_
  refine g_iconst hX (0) dX2_init_41 rfl ?_
  refine g_putI hX (i := 3) 6 4 q_inX2 (by simp [hs]) rfl (by decide) rfl (by decide) rfl q_w15 rfl tyX2_ok nmX2 rfl (ty := .int) (by decide +kernel) rfl rfl dX2_init_42 ?_
  refine g_aload_n hX 0 rfl dX2_init_45 rfl ?_
  refine g_sipush hX (1000) dX2_init_46 rfl ?_
  refine g_putI hX (i := 3) 6 5 q_inX2 (by simp [hs]) rfl (by decide) rfl (by decide) rfl q_w16 rfl tyX2_ok nmX2 rfl (ty := .int) (by decide +kernel) rfl rfl dX2_init_49 ?_
  refine g_aload_n hX 0 rfl dX2_init_52 rfl ?_
  refine g_iconst hX (3) dX2_init_53 rfl ?_
  refine g_putI hX (i := 3) 6 6 q_inX2 (by simp [hs]) rfl (by decide) rfl (by decide) rfl q_w17 rfl tyX2_ok nmX2 rfl (ty := .int) (by decide +kernel) rfl rfl dX2_init_54 ?_
  refine g_aload_n hX 0 rfl dX2_init_57 rfl ?_
  refine g_iconst hX (0) dX2_init_58 rfl ?_
  refine g_putI hX (i := 3) 6 7 q_inX2 (by simp [hs]) rfl (by decide) rfl (by decide) rfl q_w18 rfl tyX2_ok nmX2 rfl (ty := .int) (by decide +kernel) rfl rfl dX2_init_59 ?_
  refine g_aload_n hX 0 rfl dX2_init_62 rfl ?_
  refine g_iconst hX (0) dX2_init_63 rfl ?_
  refine g_putI hX (i := 3) 6 8 q_inX2 (by simp [hs]) rfl (by decide) rfl (by decide) rfl q_w19 rfl tyX2_ok nmX2 rfl (ty := .int) (by decide +kernel) rfl rfl dX2_init_64 ?_
  refine g_aload_n hX 0 rfl dX2_init_67 rfl ?_
  refine g_iconst hX (0) dX2_init_68 rfl ?_
  refine g_putI hX (i := 3) 6 9 q_inX2 (by simp [hs]) rfl (by decide) rfl (by decide) rfl q_w20 rfl tyX2_ok nmX2 rfl (ty := .int) (by decide +kernel) rfl rfl dX2_init_69 ?_
  refine g_aload_n hX 0 rfl dX2_init_72 rfl ?_
  refine g_iconst hX (0) dX2_init_73 rfl ?_
  refine g_putI hX (i := 3) 6 10 q_inX2 (by simp [hs]) rfl (by decide) rfl (by decide) rfl q_w21 rfl tyX2_ok nmX2 rfl (ty := .boolean) (by decide +kernel) rfl rfl dX2_init_74 ?_
  refine g_aload_n hX 0 rfl dX2_init_77 rfl ?_
  refine g_iconst hX (0) dX2_init_78 rfl ?_
  refine g_putI hX (i := 3) 6 11 q_inX2 (by simp [hs]) rfl (by decide) rfl (by decide) rfl q_w22 rfl tyX2_ok nmX2 rfl (ty := .boolean) (by decide +kernel) rfl rfl dX2_init_79 ?_
  refine g_aload_n hX 0 rfl dX2_init_82 rfl ?_
  refine g_iconst hX (0) dX2_init_83 rfl ?_
  refine g_putI hX (i := 3) 6 12 q_inX2 (by simp [hs]) rfl (by decide) rfl (by decide) rfl q_w23 rfl tyX2_ok nmX2 rfl (ty := .int) (by decide +kernel) rfl rfl dX2_init_84 ?_
  refine g_iconst hX (0) dX2_init_87 rfl ?_
  refine g_istore_n hX [(1, .int 0), (0, .ref (ad5 3))] rfl dX2_init_88 rfl (by decide) ?_
  obtain ⟨I9, hI9⟩ : ∃ z, z = (up2 (up2 (up2 (up2 (up2 (up2 (up2 (up2 (up2 (up2 (up2 (up2 (up2 (up2 (up2 I 15 0 1) 15 1 0) 15 2 100) 15 3 0) 15 4 97) 17 6 0) 3 4 0) 3 5 1000) 3 6 3) 3 7 0) 3 8 0) 3 9 0) 3 10 0) 3 11 0) 3 12 0) := ⟨_, rfl⟩
  obtain ⟨R9, hR9⟩ : ∃ z, z = (up2 (up2 (up2 (up2 (up2 (up2 (up2 (up2 (up2 (up2 R 3 0 (some 15)) 3 1 (some 16)) 17 0 (some 18)) 17 1 (some 19)) 17 2 (some 20)) 17 3 (some 21)) 17 4 (some 22)) 17 5 (some 23)) 3 2 (some 17)) 3 3 none) := ⟨_, rfl⟩
  have hRS9 : RS R9 (17 :: (23 :: (22 :: (21 :: (20 :: (19 :: (18 :: (16 :: (15 :: S))))))))) := by rw [hR9]; exact (RS_upN (RS_up (RS_up (RS_up (RS_up (RS_up (RS_up (RS_up (RS_up (RS_up hRS))))))))))
  have hag9 : AG L ad ad5 := (AG_tr (had4 ▸ AG_new (had3 ▸ AG_new (AG_tr (had1 ▸ AG_new AG_rf (by simp [hfn 15 (by omega)])) hag2 (by intro i hi; simp [hi])) (by simp [hfn 16 (by omega)])) (by simp [hfn 17 (by omega)])) hag5 (by intro i hi; simp [hi]))
  rw [← hI9, ← hR9]
  obtain ⟨L9, hL9⟩ : ∃ z, z = (((((((((L ++ [15]) ++ [16]) ++ [17]) ++ [18]) ++ [19]) ++ [20]) ++ [21]) ++ [22]) ++ [23]) := ⟨_, rfl⟩
  rw [← hL9] 
  have hs9 : 3 ∈ L9 := by rw [hL9]; simp [hs]
  have h16 : 16 ∈ L9 := by rw [hL9]; simp
  have hf9 : ∀ n, 24 ≤ n → n ∉ L9 := fun n hn => by rw [hL9]; simp [hfn n (by omega)]; omega
  have hgS9 : ∀ n, 24 ≤ n → n ∉ (17 :: (23 :: (22 :: (21 :: (20 :: (19 :: (18 :: (16 :: (15 :: S))))))))) := fun n hn => by simp [hgn n (by omega)]; omega
  have lp : ∀ (n9 : Nat) (k : Nat) (ad9 : Nat → Nat), 12 - k < n9 → k ≤ 12 → AG L9 ad5 ad9 → GG X D ad9 (viL L9 k) (pf dT cK cN (viI I9 k) (viR R9 k) ad9) [(1, .int (nI k)), (0, .ref (ad9 3))] (9 + k) (1536 + 11 * k) 89 [] := by
    intro n9
    induction n9 with
    | zero => intro k ad9 h9; exact absurd h9 (Nat.not_lt_zero _)
    | succ n9 ih9 =>
      intro k ad9 h9 hk hag
      refine g_iload_n hX 0 rfl dX2_init_89 rfl ?_
      refine g_bipush hX (12) dX2_init_90 rfl ?_
      refine g_icmp_ge (tgt := 115) hX dX2_init_92 (by decide) (fun c_92 => ?_) (fun c_92 => ?_)
      · have c_92 : 12 ≤ k := (nI_leI (a := 12) (b := k) (by omega) (by omega)).mp c_92
        have e12 : k = 12 := by omega
        subst e12
        exact n_vret hX hE dX2_init_115 (by omega) (by omega) ⟨ad9, AG_tr hag9 hag (fun i hi => by rw [hL9]; simp [hi]), by rw [hL9, hI9, hR9]⟩
      · have c_92 : ¬ 12 ≤ k := fun h9 => c_92 ((nI_leI (a := 12) (b := k) (by omega) (by omega)).mpr h9)
        have hk12 : k < 12 := by omega
        refine g_aload_n hX 1 rfl dX2_init_95 rfl ?_
        refine g_getRs (i := 3) hX 6 1 q_inX2 (by simp [viL_mem, hs9, h16]) rfl (by decide) rfl (by decide) rfl q_w9 rfl (j := 16) (by rw [viR_n (by decide) k, hR9]; simp [up2]) dX2_init_96 ?_
        refine g_iload_n hX 0 rfl dX2_init_99 rfl ?_
        refine g_new hX 9 (24 + k) (fun h => by rcases (viL_mem k).mp h with h | ⟨j, h1, h2⟩; exact hf9 _ (by omega) h; omega) (RS_no (viR_S hRS9 k) (fun h => by rcases (viS_mem k).mp h with h | ⟨j, h1, h2⟩; exact hgS9 _ (by omega) h; omega)) (cK_v hk12) (by decide) (fun b => by rw [viI_n k (fun j hj => by omega), hI9]; (repeat rw [up2_row (by omega)]); exact h0 _ (by omega) (by omega) b) (fun b => by rw [viR_n (by omega) k, hR9]; (repeat rw [up2_row (by omega)]); exact hr0 _ (by omega) (by omega) b) q_inX5 tyX5_ok q_w8 q_w24 q_w25 rfl (fun j hj => by rcases (show j = 0 ∨ j = 1 ∨ j = 2 ∨ j = 3 ∨ j = 4 ∨ j = 5 ∨ j = 6 ∨ j = 7 ∨ j = 8 ∨ j = 9 ∨ j = 10 by omega) with rfl | rfl | rfl | rfl | rfl | rfl | rfl | rfl | rfl | rfl | rfl <;> rfl) (by simp only [rm_X2_init]; omega) (by simp only [rm_X2_init]; omega) dX2_init_100 (fun q_24k => ?_)
        obtain ⟨ad6, had6⟩ : ∃ z, z = va_up ad9 (24 + k) q_24k := ⟨_, rfl⟩
        rw [← had6]
        refine g_lvs (lv2 := [(1, .int (nI k)), (0, .ref (ad6 3))]) (st2 := [.ref (ad6 (24 + k)), .int (nI k), .ref (ad6 16)]) (by subst had6; simp [va_up, show ¬ (3 = 24 + k) by omega, show ¬ (16 = 24 + k) by omega]) (by subst had6; simp [va_up, show ¬ (3 = 24 + k) by omega, show ¬ (16 = 24 + k) by omega]) ?_
        refine g_dup hX dX2_init_103 rfl ?_
        refine g_iload_n hX 0 rfl dX2_init_104 rfl ?_
        refine n_callV_I hX (xw := fun _ => True) (fun _ _ _ _ => trivial) SX_T (b := (24 + k)) [.int (nI k)] (k_X5_init ad6 ((viL L9 k) ++ [(24 + k)]) _ (viI I9 k) (viR R9 k) (viR_S hRS9 k) k hk12 (by simp [viL_mem, hs9, h16]) ) gX2_init_X5_init rfl rfl rfl q_w25 q_w45 q_w46 rfl hd_X5_init ⟨Nat.le_of_ble_eq_true rfl, Nat.le_of_ble_eq_true rfl⟩ ⟨by simp only [rm_X2_init]; omega, by simp only [rm_X2_init]; omega⟩ rfl (Nat.le_of_ble_eq_true rfl) dX2_init_105 (fun ad7 L9 f9 hp9 => ?_)
        obtain ⟨ad8, hag7, he9⟩ := hp9
        cases he9
        refine g_lvs (lv2 := [(1, .int (nI k)), (0, .ref (ad7 3))]) (st2 := [.ref (ad7 (24 + k)), .int (nI k), .ref (ad7 16)]) (by first | rfl | (simp only [hag7 3 (by simp [viL_mem, hs9]), hag7 16 (by simp [viL_mem, h16]), hag7 (24 + k) (by simp)])) (by first | rfl | (simp only [hag7 3 (by simp [viL_mem, hs9]), hag7 16 (by simp [viL_mem, h16]), hag7 (24 + k) (by simp)])) ?_
        refine g_aast23 (i := 16) (v := (24 + k)) hX rfl (by simp [viL_mem, hs9, h16]) rfl (by simp [viL_mem, hs9, h16]) (cK_v hk12) (g_vin hk12 (by decide)) dX2_init_108 ?_
        rw [nI_clamp (by omega)]
        refine g_iinc hX (nI (k + 1)) [(1, .int (nI (k + 1))), (0, .ref (ad7 3))] (k := 0) rfl (g_inc k) rfl dX2_init_109 (by decide) ?_
        refine g_goto (tgt := 89) hX dX2_init_112 (by decide) ?_
        refine g_widen (k := 9 + (k + 1)) (n := 1536 + 11 * (k + 1)) (by omega) (by omega) ?_
        exact ih9 (k + 1) ad7 (by omega) (by omega) (AG_tr hag (AG_tr (had6 ▸ AG_new AG_rf (fun h => by rcases (viL_mem k).mp h with h | ⟨j, h1, h2⟩; exact hf9 _ (by omega) h; omega)) hag7 (by intro i hi; simp [hi])) (fun i hi => (viL_mem k).mpr (Or.inl hi)))
  exact lp _ 0 ad5 (Nat.lt_succ_self _) (Nat.zero_le _) AG_rf

