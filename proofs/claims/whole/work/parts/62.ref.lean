abbrev rm_X7_init : Room := { frames := 1, cells := 0, slots := 0, locals := 23 }
theorem hd_X7_init : yX7_init.cls = RX7 ∧ yX7_init.cls ≠ "java/lang/invoke/MethodHandle" ∧ yX7_init.cls ≠ "java/lang/invoke/VarHandle" ∧ (parseMethodDescriptor yX7_init.desc).map (fun d => d.parameters.length) = some 0 := by decide +kernel
set_option maxRecDepth 100000 in
set_option maxHeartbeats 4000000 in
theorem k_X7_init {D : va_G} {dT : Nat → ClassId} {Z : ZT} {K N : Nat → Nat} {I : Nat → Nat → Int32} {Rr : Nat → Nat → Option Nat} {ad : Nat → Nat} {L : List Nat} (n : Nat) (hn : n ∈ L) (hkn : K n = 11) : ∀ l8, BV l8 yX7_init wsX7_init rm_X7_init D (tyl dT) Z ad L (pf dT K N I Rr ad) [.ref (ad n)] 0 0 (fun u => u = (ad, L, pf dT K N (up2 (up2 (up2 I n 2 10) n 6 (-1)) n 8 (-1)) Rr ad)) := by
  intro l9
  refine bv_of (own := RX7) (cc := cX7_init) (maxL := 1) [(0, .ref (ad n))] (by decide) rfl rfl rfl (Nat.le_of_ble_eq_true rfl) ?_
  intro X hX hE hN hM
  have q_w1 : Cond.methodLink RX7 1 objectInit ∈ wsX7_init := List.mem_of_getElem? (i := 1) rfl
  have q_w2 : Cond.instanceMethod objectInit ∈ wsX7_init := List.mem_of_getElem? (i := 2) rfl
  have q_w3 : Cond.code objectInit ⟨#[0xb1]⟩ 1 none ∈ wsX7_init := List.mem_of_getElem? (i := 3) rfl
  have q_w4 : Cond.fieldLink RX7 7 "PerforatumModel$Valve" "use" "I" ∈ wsX7_init := List.mem_of_getElem? (i := 4) rfl
  have q_inX7 : ∀ w ∈ wsX70, w ∈ wsX7_init := by decide +kernel
  have q_w5 : Cond.fieldLink RX7 13 "PerforatumModel$Valve" "closed" "I" ∈ wsX7_init := List.mem_of_getElem? (i := 5) rfl
  have q_w6 : Cond.fieldLink RX7 16 "PerforatumModel$Valve" "index" "I" ∈ wsX7_init := List.mem_of_getElem? (i := 6) rfl
  refine g_aload_n hX 0 rfl dX7_init_0 rfl ?_
  refine g_objInit hX q_w1 q_w2 q_w3 dX7_init_1 (Nat.le_of_ble_eq_true rfl) (Nat.le_of_ble_eq_true rfl) ?_
  refine g_aload_n hX 0 rfl dX7_init_4 rfl ?_
  refine g_bipush hX (10) dX7_init_5 rfl ?_
  refine g_putI hX (i := n) 11 2 q_inX7 hn hkn (by decide) rfl (by decide) rfl q_w4 rfl tyX7_ok nmX7 rfl (ty := .int) (by decide +kernel) rfl rfl dX7_init_7 ?_
  refine g_aload_n hX 0 rfl dX7_init_10 rfl ?_
  refine g_iconst hX (-1) dX7_init_11 rfl ?_
  refine g_putI hX (i := n) 11 6 q_inX7 hn hkn (by decide) rfl (by decide) rfl q_w5 rfl tyX7_ok nmX7 rfl (ty := .int) (by decide +kernel) rfl rfl dX7_init_12 ?_
  refine g_aload_n hX 0 rfl dX7_init_15 rfl ?_
  refine g_iconst hX (-1) dX7_init_16 rfl ?_
  refine g_putI hX (i := n) 11 8 q_inX7 hn hkn (by decide) rfl (by decide) rfl q_w6 rfl tyX7_ok nmX7 rfl (ty := .int) (by decide +kernel) rfl rfl dX7_init_17 ?_
  refine b_vret hX hE dX7_init_20 (by omega) (by omega) ?_
  exact rfl
abbrev rm_X8_init : Room := { frames := 4, cells := 18, slots := 161, locals := 83 }
theorem hd_X8_init : yX8_init.cls = RX8 ∧ yX8_init.cls ≠ "java/lang/invoke/MethodHandle" ∧ yX8_init.cls ≠ "java/lang/invoke/VarHandle" ∧ (parseMethodDescriptor yX8_init.desc).map (fun d => d.parameters.length) = some 0 := by decide +kernel
set_option maxRecDepth 100000 in
set_option maxHeartbeats 4000000 in
theorem k_X8_init {D : va_G} {dT : Nat → ClassId} {Z : ZT} {ad : Nat → Nat} (hz : ad 99999 = Z.1) : ∀ l8, BV l8 yX8_init wsX8_init rm_X8_init D (tyl dT) Z ad [0] (pf dT mK mN I8z R8z ad) [.ref (ad 0)] 18 161 (fun u => ∃ ad2, AGm [0] ad ad2 ∧ ∃ J, IN8 J ∧ u = (ad2, mL S00z, mf dT ad2 J S00z)) := by
  intro l9
  refine bv_of (own := RX8) (cc := cX8_init) (maxL := 2) [(0, .ref (ad 0))] (by decide) rfl rfl rfl (Nat.le_of_ble_eq_true rfl) ?_
  intro X hX hE hN hM
  have q_w1 : Cond.methodLink RX8 1 objectInit ∈ wsX8_init := List.mem_of_getElem? (i := 1) rfl
  have q_w2 : Cond.instanceMethod objectInit ∈ wsX8_init := List.mem_of_getElem? (i := 2) rfl
  have q_w3 : Cond.code objectInit ⟨#[0xb1]⟩ 1 none ∈ wsX8_init := List.mem_of_getElem? (i := 3) rfl
  have q_w4 : Cond.classLink RX8 7 RJx4a65c ∈ wsX8_init := List.mem_of_getElem? (i := 4) rfl
  have q_w5 : Cond.instantiable RJx4a65c 3 ∈ wsX8_init := List.mem_of_getElem? (i := 5) rfl
  have q_w6 : Cond.initialized RJx4a65c ∈ wsX8_init := List.mem_of_getElem? (i := 6) rfl
  have q_inJx4a65c : ∀ w ∈ wsJx4a65c0, w ∈ wsX8_init := by decide +kernel
  have q_w23 : Cond.instanceMethod yJx4a65c_init_da8c8 ∈ wsX8_init := List.mem_of_getElem? (i := 23) rfl
  have q_w22 : Cond.methodLink RX8 9 yJx4a65c_init_da8c8 ∈ wsX8_init := List.mem_of_getElem? (i := 22) rfl
  have q_w7 : Cond.fieldLink RX8 10 "PerforatumModel" "rolls" "Ljava/util/List;" ∈ wsX8_init := List.mem_of_getElem? (i := 7) rfl
  have q_inX8 : ∀ w ∈ wsX80, w ∈ wsX8_init := by decide +kernel
  have q_w8 : Cond.fieldLink RX8 16 "PerforatumModel" "music" "Ljava/util/List;" ∈ wsX8_init := List.mem_of_getElem? (i := 8) rfl
  have q_w9 : Cond.fieldLink RX8 19 "PerforatumModel" "sounds" "Ljava/util/List;" ∈ wsX8_init := List.mem_of_getElem? (i := 9) rfl
  have q_w10 : Cond.classLink RX8 22 "PerforatumModel$Valve" ∈ wsX8_init := List.mem_of_getElem? (i := 10) rfl
  have q_w11 : Cond.fieldLink RX8 24 "PerforatumModel" "valves" "[LPerforatumModel$Valve;" ∈ wsX8_init := List.mem_of_getElem? (i := 11) rfl
  have q_w12 : Cond.arrayClass .int ∈ wsX8_init := List.mem_of_getElem? (i := 12) rfl
  have q_w13 : Cond.fieldLink RX8 28 "PerforatumModel" "told" "[I" ∈ wsX8_init := List.mem_of_getElem? (i := 13) rfl
  have q_w14 : Cond.arrayClass .boolean ∈ wsX8_init := List.mem_of_getElem? (i := 14) rfl
  have q_w15 : Cond.fieldLink RX8 32 "PerforatumModel" "before" "[Z" ∈ wsX8_init := List.mem_of_getElem? (i := 15) rfl
  have q_w16 : Cond.fieldLink RX8 36 "PerforatumModel" "played" "I" ∈ wsX8_init := List.mem_of_getElem? (i := 16) rfl
  have q_w17 : Cond.fieldLink RX8 40 "PerforatumModel" "first" "I" ∈ wsX8_init := List.mem_of_getElem? (i := 17) rfl
  have q_w18 : Cond.fieldLink RX8 43 "PerforatumModel" "maker" "C" ∈ wsX8_init := List.mem_of_getElem? (i := 18) rfl
  have q_w19 : Cond.instantiable RX7 10 ∈ wsX8_init := List.mem_of_getElem? (i := 19) rfl
  have q_w20 : Cond.initialized RX7 ∈ wsX8_init := List.mem_of_getElem? (i := 20) rfl
  have q_inX7 : ∀ w ∈ wsX70, w ∈ wsX8_init := by decide +kernel
  have q_w37 : Cond.instanceMethod yX7_init ∈ wsX8_init := List.mem_of_getElem? (i := 37) rfl
  have q_w21 : Cond.fieldLink RX8 48 "PerforatumModel$Valve" "from" "I" ∈ wsX8_init := List.mem_of_getElem? (i := 21) rfl
  refine g_aload_n hX 0 rfl dX8_init_0 rfl ?_
  refine g_objInit hX q_w1 q_w2 q_w3 dX8_init_1 (Nat.le_of_ble_eq_true rfl) (Nat.le_of_ble_eq_true rfl) ?_
  refine g_aload_n hX 0 rfl dX8_init_4 rfl ?_
  refine g_f (g := pf dT mK mN (upr I8z 1 (fun _ => 0)) R8z ad) (fun i hi => pf_I (upr_n (show i ≠ 1 from fun h => (show (1 : Nat) ∉ [0] by decide) (h ▸ hi))).symm) ?_
  refine g_new hX 3 1 (show (1 : Nat) ∉ [0] by decide) (RS_no RS8z (by decide)) rfl (by decide) (fun k9 => congrFun upr_s k9) (fun _ => rfl) q_inJx4a65c tyJx4a65c_ok q_w4 q_w5 q_w6 rfl (fun j hj => by rcases (show j = 0 ∨ j = 1 ∨ j = 2 by omega) with rfl | rfl | rfl <;> rfl) (Nat.le_of_ble_eq_true rfl) (Nat.le_of_ble_eq_true rfl) dX8_init_5 (fun qn1 => ?_)
  obtain ⟨a2, ha2⟩ : ∃ z9, z9 = va_up ad 1 qn1 := ⟨_, rfl⟩
  have ga2 : ∀ i, i ∈ [0] → a2 i = ad i := fun i hi => by rw [ha2]; exact va_up_ne _ _ (fun h => (show (1 : Nat) ∉ [0] by decide) (h ▸ hi))
  rw [← ha2]
  refine g_lvs (lv2 := [(0, .ref (a2 0))]) (st2 := [.ref (a2 1), .ref (a2 0)]) (by rw [ga2 0 (List.mem_singleton.mpr rfl)]) (by rw [ga2 0 (List.mem_singleton.mpr rfl)]) ?_
  have aga2 : AGm [0] ad a2 := by rw [ha2]; exact AGm_new AGm_rf (show (1 : Nat) ∉ [0] by decide) (by omega)
  refine g_dup hX dX8_init_8 rfl ?_
  refine b_callV_I hX hM (b := 1) [] (k_Jx4a65c_init_da8c8 1 (List.mem_append_right _ (List.mem_singleton.mpr rfl)) rfl 99999 (AGm_z aga2 hz)) gX8_init_Jx4a65c_init_da8c8 rfl rfl rfl q_w6 q_w22 q_w23 rfl hd_Jx4a65c_init_da8c8.2 ⟨Nat.le_of_ble_eq_true rfl, Nat.le_of_ble_eq_true rfl⟩ ⟨Nat.le_of_ble_eq_true rfl, Nat.le_of_ble_eq_true rfl⟩ rfl (Nat.le_of_ble_eq_true rfl) dX8_init_9 (fun ad9 L9 f9 hp9 => ?_)
  cases hp9
  refine g_putRF hX hN (i := 0) 12 0 q_inX8 (List.mem_append_left _ (List.mem_singleton.mpr rfl)) rfl (by decide) rfl (by decide) rfl q_w7 rfl tyX8_ok nmX8 rfl rfl (ty := .object "java/util/List") (by decide +kernel) (x := (some 1)) rfl rfl rfl dX8_init_12 ?_
  refine g_aload_n hX 0 rfl dX8_init_15 rfl ?_
  refine g_f (g := pf dT mK mN (upr (up2 (upr I8z 1 (fun _ => 0)) 1 0 0) 2 (fun _ => 0)) (up2 (up2 R8z 1 1 (some 99999)) 0 0 (some 1)) a2) (fun i hi => pf_I (upr_n (show i ≠ 2 from fun h => (nm_app (show (2 : Nat) ∉ [0] by decide) (by decide)) (h ▸ hi))).symm) ?_
  refine g_new hX 3 2 (nm_app (show (2 : Nat) ∉ [0] by decide) (by decide)) (RS_no (RS_up (RS_up RS8z)) (by decide)) rfl (by decide) (fun k9 => congrFun upr_s k9) (fun k9 => (up2_n (Or.inl (by decide))).trans ((fun k9 => (up2_n (Or.inl (by decide))).trans ((fun _ => rfl) k9)) k9)) q_inJx4a65c tyJx4a65c_ok q_w4 q_w5 q_w6 rfl (fun j hj => by rcases (show j = 0 ∨ j = 1 ∨ j = 2 by omega) with rfl | rfl | rfl <;> rfl) (Nat.le_of_ble_eq_true rfl) (Nat.le_of_ble_eq_true rfl) dX8_init_16 (fun qn3 => ?_)
  obtain ⟨a4, ha4⟩ : ∃ z9, z9 = va_up a2 2 qn3 := ⟨_, rfl⟩
  have ga4 : ∀ i, i ∈ ([0] ++ [1]) → a4 i = a2 i := fun i hi => by rw [ha4]; exact va_up_ne _ _ (fun h => (nm_app (show (2 : Nat) ∉ [0] by decide) (by decide)) (h ▸ hi))
  rw [← ha4]
  refine g_lvs (lv2 := [(0, .ref (a4 0))]) (st2 := [.ref (a4 2), .ref (a4 0)]) (by rw [ga4 0 (List.mem_append_left _ (List.mem_singleton.mpr rfl))]) (by rw [ga4 0 (List.mem_append_left _ (List.mem_singleton.mpr rfl))]) ?_
  have aga4 : AGm [0] ad a4 := by rw [ha4]; exact AGm_new aga2 (show (2 : Nat) ∉ [0] by decide) (by omega)
  refine g_dup hX dX8_init_19 rfl ?_
  refine b_callV_I hX hM (b := 2) [] (k_Jx4a65c_init_da8c8 2 (List.mem_append_right _ (List.mem_singleton.mpr rfl)) rfl 99999 (AGm_z aga4 hz)) gX8_init_Jx4a65c_init_da8c8 rfl rfl rfl q_w6 q_w22 q_w23 rfl hd_Jx4a65c_init_da8c8.2 ⟨Nat.le_of_ble_eq_true rfl, Nat.le_of_ble_eq_true rfl⟩ ⟨Nat.le_of_ble_eq_true rfl, Nat.le_of_ble_eq_true rfl⟩ rfl (Nat.le_of_ble_eq_true rfl) dX8_init_20 (fun ad9 L9 f9 hp9 => ?_)
  cases hp9
  refine g_putRF hX hN (i := 0) 12 1 q_inX8 (List.mem_append_left _ (List.mem_append_left _ (List.mem_singleton.mpr rfl))) rfl (by decide) rfl (by decide) rfl q_w8 rfl tyX8_ok nmX8 rfl rfl (ty := .object "java/util/List") (by decide +kernel) (x := (some 2)) rfl rfl rfl dX8_init_23 ?_
  refine g_aload_n hX 0 rfl dX8_init_26 rfl ?_
  refine g_f (g := pf dT mK mN (upr (up2 (upr (up2 (upr I8z 1 (fun _ => 0)) 1 0 0) 2 (fun _ => 0)) 2 0 0) 3 (fun _ => 0)) (up2 (up2 (up2 (up2 R8z 1 1 (some 99999)) 0 0 (some 1)) 2 1 (some 99999)) 0 1 (some 2)) a4) (fun i hi => pf_I (upr_n (show i ≠ 3 from fun h => (nm_app (nm_app (show (3 : Nat) ∉ [0] by decide) (by decide)) (by decide)) (h ▸ hi))).symm) ?_
  refine g_new hX 3 3 (nm_app (nm_app (show (3 : Nat) ∉ [0] by decide) (by decide)) (by decide)) (RS_no (RS_up (RS_up (RS_up (RS_up RS8z)))) (by decide)) rfl (by decide) (fun k9 => congrFun upr_s k9) (fun k9 => (up2_n (Or.inl (by decide))).trans ((fun k9 => (up2_n (Or.inl (by decide))).trans ((fun k9 => (up2_n (Or.inl (by decide))).trans ((fun k9 => (up2_n (Or.inl (by decide))).trans ((fun _ => rfl) k9)) k9)) k9)) k9)) q_inJx4a65c tyJx4a65c_ok q_w4 q_w5 q_w6 rfl (fun j hj => by rcases (show j = 0 ∨ j = 1 ∨ j = 2 by omega) with rfl | rfl | rfl <;> rfl) (Nat.le_of_ble_eq_true rfl) (Nat.le_of_ble_eq_true rfl) dX8_init_27 (fun qn5 => ?_)
  obtain ⟨a6, ha6⟩ : ∃ z9, z9 = va_up a4 3 qn5 := ⟨_, rfl⟩
  have ga6 : ∀ i, i ∈ (([0] ++ [1]) ++ [2]) → a6 i = a4 i := fun i hi => by rw [ha6]; exact va_up_ne _ _ (fun h => (nm_app (nm_app (show (3 : Nat) ∉ [0] by decide) (by decide)) (by decide)) (h ▸ hi))
  rw [← ha6]
  refine g_lvs (lv2 := [(0, .ref (a6 0))]) (st2 := [.ref (a6 3), .ref (a6 0)]) (by rw [ga6 0 (List.mem_append_left _ (List.mem_append_left _ (List.mem_singleton.mpr rfl)))]) (by rw [ga6 0 (List.mem_append_left _ (List.mem_append_left _ (List.mem_singleton.mpr rfl)))]) ?_
  have aga6 : AGm [0] ad a6 := by rw [ha6]; exact AGm_new aga4 (show (3 : Nat) ∉ [0] by decide) (by omega)
  refine g_dup hX dX8_init_30 rfl ?_
  refine b_callV_I hX hM (b := 3) [] (k_Jx4a65c_init_da8c8 3 (List.mem_append_right _ (List.mem_singleton.mpr rfl)) rfl 99999 (AGm_z aga6 hz)) gX8_init_Jx4a65c_init_da8c8 rfl rfl rfl q_w6 q_w22 q_w23 rfl hd_Jx4a65c_init_da8c8.2 ⟨Nat.le_of_ble_eq_true rfl, Nat.le_of_ble_eq_true rfl⟩ ⟨Nat.le_of_ble_eq_true rfl, Nat.le_of_ble_eq_true rfl⟩ rfl (Nat.le_of_ble_eq_true rfl) dX8_init_31 (fun ad9 L9 f9 hp9 => ?_)
  cases hp9
  refine g_putRF hX hN (i := 0) 12 2 q_inX8 (List.mem_append_left _ (List.mem_append_left _ (List.mem_append_left _ (List.mem_singleton.mpr rfl)))) rfl (by decide) rfl (by decide) rfl q_w9 rfl tyX8_ok nmX8 rfl rfl (ty := .object "java/util/List") (by decide +kernel) (x := (some 3)) rfl rfl rfl dX8_init_34 ?_
  refine g_aload_n hX 0 rfl dX8_init_37 rfl ?_
  refine g_bipush hX (12) dX8_init_38 rfl ?_
  refine g_newR24 hX 4 (nm_app (nm_app (nm_app (show (4 : Nat) ∉ [0] by decide) (by decide)) (by decide)) (by decide)) (RS_no (RS_up (RS_up (RS_up (RS_up (RS_up (RS_up RS8z)))))) (by decide)) 12 rfl rfl (fun k9 => (up2_n (Or.inl (by decide))).trans ((fun k9 => (up2_n (Or.inl (by decide))).trans ((fun k9 => (up2_n (Or.inl (by decide))).trans ((fun k9 => (up2_n (Or.inl (by decide))).trans ((fun k9 => (up2_n (Or.inl (by decide))).trans ((fun k9 => (up2_n (Or.inl (by decide))).trans ((fun _ => rfl) k9)) k9)) k9)) k9)) k9)) k9)) (x := 12) rfl (by decide) q_w10 (hM.ao (by decide)) (Nat.le_of_ble_eq_true rfl) (Nat.le_of_ble_eq_true rfl) dX8_init_40 (fun qn7 => ?_)
  obtain ⟨a8, ha8⟩ : ∃ z9, z9 = va_up a6 4 qn7 := ⟨_, rfl⟩
  have ga8 : ∀ i, i ∈ ((([0] ++ [1]) ++ [2]) ++ [3]) → a8 i = a6 i := fun i hi => by rw [ha8]; exact va_up_ne _ _ (fun h => (nm_app (nm_app (nm_app (show (4 : Nat) ∉ [0] by decide) (by decide)) (by decide)) (by decide)) (h ▸ hi))
  rw [← ha8]
  refine g_lvs (lv2 := [(0, .ref (a8 0))]) (st2 := [.ref (a8 4), .ref (a8 0)]) (by rw [ga8 0 (List.mem_append_left _ (List.mem_append_left _ (List.mem_append_left _ (List.mem_singleton.mpr rfl))))]) (by rw [ga8 0 (List.mem_append_left _ (List.mem_append_left _ (List.mem_append_left _ (List.mem_singleton.mpr rfl))))]) ?_
  have aga8 : AGm [0] ad a8 := by rw [ha8]; exact AGm_new aga6 (show (4 : Nat) ∉ [0] by decide) (by omega)
  refine g_putRF hX hN (i := 0) 12 3 q_inX8 (List.mem_append_left _ (List.mem_append_left _ (List.mem_append_left _ (List.mem_append_left _ (List.mem_singleton.mpr rfl))))) rfl (by decide) rfl (by decide) rfl q_w11 rfl tyX8_ok nmX8 rfl rfl (ty := .array (.object "PerforatumModel$Valve")) (by decide +kernel) (x := (some 4)) rfl rfl rfl dX8_init_43 ?_
  refine g_aload_n hX 0 rfl dX8_init_46 rfl ?_
  refine g_iconst hX (4) dX8_init_47 rfl ?_
  refine g_f (g := pf dT mK mN (upr (up2 (upr (up2 (upr (up2 (upr I8z 1 (fun _ => 0)) 1 0 0) 2 (fun _ => 0)) 2 0 0) 3 (fun _ => 0)) 3 0 0) 5 (fun _ => 0)) (up2 (up2 (up2 (up2 (up2 (up2 (up2 R8z 1 1 (some 99999)) 0 0 (some 1)) 2 1 (some 99999)) 0 1 (some 2)) 3 1 (some 99999)) 0 2 (some 3)) 0 3 (some 4)) a8) (fun i hi => pf_I (upr_n (show i ≠ 5 from fun h => (nm_app (nm_app (nm_app (nm_app (show (5 : Nat) ∉ [0] by decide) (by decide)) (by decide)) (by decide)) (by decide)) (h ▸ hi))).symm) ?_
  refine g_newI hX 5 (nm_app (nm_app (nm_app (nm_app (show (5 : Nat) ∉ [0] by decide) (by decide)) (by decide)) (by decide)) (by decide)) (RS_no (RS_up (RS_up (RS_up (RS_up (RS_up (RS_up (RS_up RS8z))))))) (by decide)) 4 rfl rfl (fun k9 => congrFun upr_s k9) (x := 4) rfl (by decide) q_w12 (Nat.le_of_ble_eq_true rfl) (Nat.le_of_ble_eq_true rfl) dX8_init_48 (fun qn9 => ?_)
  obtain ⟨a10, ha10⟩ : ∃ z9, z9 = va_up a8 5 qn9 := ⟨_, rfl⟩
  have ga10 : ∀ i, i ∈ (((([0] ++ [1]) ++ [2]) ++ [3]) ++ [4]) → a10 i = a8 i := fun i hi => by rw [ha10]; exact va_up_ne _ _ (fun h => (nm_app (nm_app (nm_app (nm_app (show (5 : Nat) ∉ [0] by decide) (by decide)) (by decide)) (by decide)) (by decide)) (h ▸ hi))
  rw [← ha10]
  refine g_lvs (lv2 := [(0, .ref (a10 0))]) (st2 := [.ref (a10 5), .ref (a10 0)]) (by rw [ga10 0 (List.mem_append_left _ (List.mem_append_left _ (List.mem_append_left _ (List.mem_append_left _ (List.mem_singleton.mpr rfl)))))]) (by rw [ga10 0 (List.mem_append_left _ (List.mem_append_left _ (List.mem_append_left _ (List.mem_append_left _ (List.mem_singleton.mpr rfl)))))]) ?_
  have aga10 : AGm [0] ad a10 := by rw [ha10]; exact AGm_new aga8 (show (5 : Nat) ∉ [0] by decide) (by omega)
  refine g_dup hX dX8_init_50 rfl ?_
  refine g_iconst hX (0) dX8_init_51 rfl ?_
  refine g_iconst hX (1) dX8_init_52 rfl ?_
  refine h_iast (i := 5) hX 0 rfl (by show _ < (4 : Nat); omega) (by decide) (List.mem_append_right _ (List.mem_singleton.mpr rfl)) rfl dX8_init_53 ?_
  refine g_dup hX dX8_init_54 rfl ?_
  refine g_iconst hX (1) dX8_init_55 rfl ?_
  refine g_iconst hX (0) dX8_init_56 rfl ?_
  refine h_iast (i := 5) hX 1 rfl (by show _ < (4 : Nat); omega) (by decide) (List.mem_append_right _ (List.mem_singleton.mpr rfl)) rfl dX8_init_57 ?_
  refine g_dup hX dX8_init_58 rfl ?_
  refine g_iconst hX (2) dX8_init_59 rfl ?_
  refine g_bipush hX (100) dX8_init_60 rfl ?_
  refine h_iast (i := 5) hX 2 rfl (by show _ < (4 : Nat); omega) (by decide) (List.mem_append_right _ (List.mem_singleton.mpr rfl)) rfl dX8_init_62 ?_
  refine g_dup hX dX8_init_63 rfl ?_
  refine g_iconst hX (3) dX8_init_64 rfl ?_
  refine g_iconst hX (0) dX8_init_65 rfl ?_
  refine h_iast (i := 5) hX 3 rfl (by show _ < (4 : Nat); omega) (by decide) (List.mem_append_right _ (List.mem_singleton.mpr rfl)) rfl dX8_init_66 ?_
  refine g_putRF hX hN (i := 0) 12 4 q_inX8 (List.mem_append_left _ (List.mem_append_left _ (List.mem_append_left _ (List.mem_append_left _ (List.mem_append_left _ (List.mem_singleton.mpr rfl)))))) rfl (by decide) rfl (by decide) rfl q_w13 rfl tyX8_ok nmX8 rfl rfl (ty := .array .int) (by decide +kernel) (x := (some 5)) rfl rfl rfl dX8_init_67 ?_
  refine g_aload_n hX 0 rfl dX8_init_70 rfl ?_
  refine g_bipush hX (16) dX8_init_71 rfl ?_
  refine g_f (g := pf dT mK mN (upr (up2 (up2 (up2 (up2 (upr (up2 (upr (up2 (upr (up2 (upr I8z 1 (fun _ => 0)) 1 0 0) 2 (fun _ => 0)) 2 0 0) 3 (fun _ => 0)) 3 0 0) 5 (fun _ => 0)) 5 0 1) 5 1 0) 5 2 100) 5 3 0) 6 (fun _ => 0)) (up2 (up2 (up2 (up2 (up2 (up2 (up2 (up2 R8z 1 1 (some 99999)) 0 0 (some 1)) 2 1 (some 99999)) 0 1 (some 2)) 3 1 (some 99999)) 0 2 (some 3)) 0 3 (some 4)) 0 4 (some 5)) a10) (fun i hi => pf_I (upr_n (show i ≠ 6 from fun h => (nm_app (nm_app (nm_app (nm_app (nm_app (show (6 : Nat) ∉ [0] by decide) (by decide)) (by decide)) (by decide)) (by decide)) (by decide)) (h ▸ hi))).symm) ?_
  refine g_newZ hX 6 (nm_app (nm_app (nm_app (nm_app (nm_app (show (6 : Nat) ∉ [0] by decide) (by decide)) (by decide)) (by decide)) (by decide)) (by decide)) (RS_no (RS_up (RS_up (RS_up (RS_up (RS_up (RS_up (RS_up (RS_up RS8z)))))))) (by decide)) 16 rfl rfl (fun k9 => congrFun upr_s k9) (x := 16) rfl (by decide) q_w14 (Nat.le_of_ble_eq_true rfl) (Nat.le_of_ble_eq_true rfl) dX8_init_73 (fun qn11 => ?_)
  obtain ⟨a12, ha12⟩ : ∃ z9, z9 = va_up a10 6 qn11 := ⟨_, rfl⟩
  have ga12 : ∀ i, i ∈ ((((([0] ++ [1]) ++ [2]) ++ [3]) ++ [4]) ++ [5]) → a12 i = a10 i := fun i hi => by rw [ha12]; exact va_up_ne _ _ (fun h => (nm_app (nm_app (nm_app (nm_app (nm_app (show (6 : Nat) ∉ [0] by decide) (by decide)) (by decide)) (by decide)) (by decide)) (by decide)) (h ▸ hi))
  rw [← ha12]
  refine g_lvs (lv2 := [(0, .ref (a12 0))]) (st2 := [.ref (a12 6), .ref (a12 0)]) (by rw [ga12 0 (List.mem_append_left _ (List.mem_append_left _ (List.mem_append_left _ (List.mem_append_left _ (List.mem_append_left _ (List.mem_singleton.mpr rfl))))))]) (by rw [ga12 0 (List.mem_append_left _ (List.mem_append_left _ (List.mem_append_left _ (List.mem_append_left _ (List.mem_append_left _ (List.mem_singleton.mpr rfl))))))]) ?_
  have aga12 : AGm [0] ad a12 := by rw [ha12]; exact AGm_new aga10 (show (6 : Nat) ∉ [0] by decide) (by omega)
  refine g_putR hX (i := 0) 12 5 q_inX8 (List.mem_append_left _ (List.mem_append_left _ (List.mem_append_left _ (List.mem_append_left _ (List.mem_append_left _ (List.mem_append_left _ (List.mem_singleton.mpr rfl))))))) rfl (by decide) rfl (by decide) rfl q_w15 rfl tyX8_ok nmX8 rfl (ty := .array .boolean) (by decide +kernel) (x := (some 6)) rfl rfl rfl dX8_init_75 ?_
  refine g_aload_n hX 0 rfl dX8_init_78 rfl ?_
  refine g_iconst hX (-1) dX8_init_79 rfl ?_
  refine g_putI hX (i := 0) 12 6 q_inX8 (List.mem_append_left _ (List.mem_append_left _ (List.mem_append_left _ (List.mem_append_left _ (List.mem_append_left _ (List.mem_append_left _ (List.mem_singleton.mpr rfl))))))) rfl (by decide) rfl (by decide) rfl q_w16 rfl tyX8_ok nmX8 rfl (ty := .int) (by decide +kernel) rfl rfl dX8_init_80 ?_
  refine g_aload_n hX 0 rfl dX8_init_83 rfl ?_
  refine g_sipush hX (400) dX8_init_84 rfl ?_
  refine g_putI hX (i := 0) 12 13 q_inX8 (List.mem_append_left _ (List.mem_append_left _ (List.mem_append_left _ (List.mem_append_left _ (List.mem_append_left _ (List.mem_append_left _ (List.mem_singleton.mpr rfl))))))) rfl (by decide) rfl (by decide) rfl q_w17 rfl tyX8_ok nmX8 rfl (ty := .int) (by decide +kernel) rfl rfl dX8_init_87 ?_
  refine g_aload_n hX 0 rfl dX8_init_90 rfl ?_
  refine g_bipush hX (97) dX8_init_91 rfl ?_
  refine g_putI hX (i := 0) 12 17 q_inX8 (List.mem_append_left _ (List.mem_append_left _ (List.mem_append_left _ (List.mem_append_left _ (List.mem_append_left _ (List.mem_append_left _ (List.mem_singleton.mpr rfl))))))) rfl (by decide) rfl (by decide) rfl q_w18 rfl tyX8_ok nmX8 rfl (ty := .char) (by decide +kernel) rfl rfl dX8_init_93 ?_
  obtain ⟨J0, hJ0⟩ : ∃ z, z = (up2 (up2 (up2 (upr (up2 (up2 (up2 (up2 (upr (up2 (upr (up2 (upr (up2 (upr I8z 1 (fun _ => 0)) 1 0 0) 2 (fun _ => 0)) 2 0 0) 3 (fun _ => 0)) 3 0 0) 5 (fun _ => 0)) 5 0 1) 5 1 0) 5 2 100) 5 3 0) 6 (fun _ => 0)) 0 6 (-1)) 0 13 400) 0 17 97) := ⟨_, rfl⟩
  rw [← hJ0]
  refine g_L (L2 := iL 0) (fun i hi => by rw [show iL 0 = [0, 1, 2, 3, 4, 5, 6] from rfl] at hi; exact hi) (by rw [show iL 0 = [0, 1, 2, 3, 4, 5, 6] from rfl]; decide) ?_
  refine g_f (g := pf dT mK mN J0 (iR 0) a12) (fun i hi => (pf_R (iR_0 rfl rfl rfl i (by rw [show iL 0 = [0, 1, 2, 3, 4, 5, 6] from rfl] at hi; exact hi)))) ?_
  refine g_iconst hX (0) dX8_init_96 rfl ?_
  refine g_istore_n hX [(1, .int 0), (0, .ref (a12 0))] rfl dX8_init_97 rfl (by decide) ?_
  have lp_98 : ∀ (n9 : Nat) (k : Nat) (a : Nat → Nat), 12 - k < n9 → (k ≤ 12) → (AGm [0] ad a) → GG X D a (iL k) (pf dT mK mN (vI8 J0 k) (iR k) a) [(1, .int (nI k)), (0, .ref (a 0))] (6 + k) (41 + 10 * k) 98 [] := by
    intro n9
    induction n9 with
    | zero => intro k a h9; exact absurd h9 (Nat.not_lt_zero _)
    | succ n9 ih9 =>
      intro k a h9 hk hag
      have ih_98 := ih9
      refine g_iload_n hX 0 rfl dX8_init_98 rfl ?_
      refine g_bipush hX (12) dX8_init_99 rfl ?_
      refine g_icmp_ge (tgt := 133) hX dX8_init_101 (by decide) (fun c_101 => ?_) (fun c_101 => ?_)
      · have c_101 : 12 ≤ k := (nI_leI (a := 12) (b := k) (by omega) (by omega)).mp c_101
        have hk12 : k = 12 := by omega
        subst hk12
        refine g_L (L2 := mL S00z) (fun i hi => iL_12 hi) mL_nd ?_
        refine g_f (g := pf dT mK mN (vI8 J0 12) (mR S00z) a) (fun i hi => pf_R (iR_12 hi).symm) ?_
        refine b_vret hX hE dX8_init_133 (by omega) (by omega) ?_
        refine ⟨_, hag, vI8 J0 12, ⟨⟨?_, ?_, ?_, ?_, ?_, ?_, ?_, ?_, ?_, ?_, ?_, ?_⟩, ?_, ?_, ?_, ⟨?_, ?_, ?_, ?_⟩, fun v b hv => vI8_v 12 hv⟩, rfl⟩ <;> (rw [vI8_n (by decide)]; subst hJ0; simp [up2, upr, I8z])
      · have c_101 : ¬ 12 ≤ k := fun h9 => c_101 ((nI_leI (a := 12) (b := k) (by omega) (by omega)).mpr h9)
        refine g_aload_n hX 1 rfl dX8_init_104 rfl ?_
        refine g_getRs (i := 0) hX 12 3 q_inX8 (iL_mem.mpr (Or.inl (by decide))) rfl (by decide) rfl (by decide) rfl q_w11 rfl (j := 4) rfl dX8_init_105 ?_
        refine g_iload_n hX 0 rfl dX8_init_108 rfl ?_
        refine g_f (g := pf dT mK mN (upr (vI8 J0 k) (20 + k) (fun _ => 0)) (iR k) a) (fun i hi => pf_I (upr_n (show i ≠ (20 + k) from fun h => (fun h => by rcases iL_mem.mp h with w | ⟨q, w1, w2⟩ <;> omega) (h ▸ hi))).symm) ?_
        refine g_new hX 11 (20 + k) (fun h => by rcases iL_mem.mp h with w | ⟨q, w1, w2⟩ <;> omega) (iR_no (by omega) (by omega)) (mK_v (by omega)) (by decide) (fun k9 => congrFun upr_s k9) (iR_v (by omega)) q_inX7 tyX7_ok q_w10 q_w19 q_w20 rfl (fun j hj => by rcases (show j = 0 ∨ j = 1 ∨ j = 2 ∨ j = 3 ∨ j = 4 ∨ j = 5 ∨ j = 6 ∨ j = 7 ∨ j = 8 ∨ j = 9 by omega) with rfl | rfl | rfl | rfl | rfl | rfl | rfl | rfl | rfl | rfl <;> rfl) (by show _ ≤ 18; omega) (by show _ ≤ 161; omega) dX8_init_109 (fun qn13 => ?_)
        obtain ⟨a14, ha14⟩ : ∃ z9, z9 = va_up a (20 + k) qn13 := ⟨_, rfl⟩
        have ga14 : ∀ i, i ∈ (iL k) → a14 i = a i := fun i hi => by rw [ha14]; exact va_up_ne _ _ (fun h => (fun h => by rcases iL_mem.mp h with w | ⟨q, w1, w2⟩ <;> omega) (h ▸ hi))
        rw [← ha14]
        refine g_lvs (lv2 := [(1, .int (nI k)), (0, .ref (a14 0))]) (st2 := [.ref (a14 (20 + k)), .int (nI k), .ref (a14 4)]) (by rw [ga14 0 (iL_mem.mpr (Or.inl (by decide)))]) (by rw [ga14 4 (iL_mem.mpr (Or.inl (by decide)))]) ?_
        have aga14 : AGm [0] ad a14 := by rw [ha14]; exact AGm_new hag (fun h => by have := List.mem_singleton.mp h; omega) (by omega)
        refine g_dup hX dX8_init_112 rfl ?_
        refine b_callV_IN hX hM (b := (20 + k)) [] (k_X7_init (20 + k) (List.mem_append_right _ (List.mem_singleton.mpr rfl)) (mK_v (by omega))) gX8_init_X7_init_n47 rfl rfl rfl q_w20 (host := "PerforatumModel") (by decide +kernel) q_w37 rfl hd_X7_init.2 ⟨Nat.le_of_ble_eq_true rfl, Nat.le_of_ble_eq_true rfl⟩ ⟨by show _ ≤ 18; omega, by show _ ≤ 161; omega⟩ rfl (Nat.le_of_ble_eq_true rfl) dX8_init_113 (fun ad9 L9 f9 hp9 => ?_)
        cases hp9
        refine h_ast24 (i := 4)  (v := (20 + k)) hX k rfl (by show _ < (12 : Nat); omega) (by decide) (List.mem_append_left _ (iL_mem.mpr (Or.inl (by decide)))) rfl (List.mem_append_right _ (List.mem_singleton.mpr rfl)) (mK_v (by omega)) dX8_init_116 ?_
        refine g_aload_n hX 1 rfl dX8_init_117 rfl ?_
        refine g_getRs (i := 0) hX 12 3 q_inX8 (List.mem_append_left _ (iL_mem.mpr (Or.inl (by decide)))) rfl (by decide) rfl (by decide) rfl q_w11 rfl (j := 4) (up2_n (Or.inl (by decide))) dX8_init_118 ?_
        refine g_iload_n hX 0 rfl dX8_init_121 rfl ?_
        refine h_aald24 (i := 4) hX k rfl (by show _ < (12 : Nat); omega) (by decide) (j := (20 + k)) up2_s (List.mem_append_left _ (iL_mem.mpr (Or.inl (by decide)))) rfl dX8_init_122 ?_
        refine g_iload_n hX 0 rfl dX8_init_123 rfl ?_
        refine g_putI hX (i := (20 + k)) 11 3 q_inX7 (List.mem_append_right _ (List.mem_singleton.mpr rfl)) (mK_v (by omega)) (by decide) rfl (by decide) rfl q_w21 rfl tyX7_ok nmX7 rfl (ty := .int) (by decide +kernel) rfl rfl dX8_init_124 ?_
        refine g_iinc hX (nI (k + 1)) [(1, .int (nI (k + 1))), (0, .ref (a14 0))] (k := 0) rfl (g_inc k) rfl dX8_init_127 (by decide) ?_
        refine g_goto (tgt := 98) hX dX8_init_130 (by decide) ?_
        rw [iL_s, iR_s]
        rw [show (up2 (up2 (up2 (up2 (upr (vI8 J0 k) (20 + k) (fun _ => 0)) (20 + k) 2 10) (20 + k) 6 (-1)) (20 + k) 8 (-1)) (20 + k) 3 (nI k)) = (vI8 J0 (k + 1)) from rfl]
        skip
        refine g_lv [0, 1] rfl ?_
        refine g_widen (k := 6 + (k + 1)) (n := 41 + 10 * (k + 1)) (by omega) (by omega) ?_
        exact ih_98 (k + 1) a14 (by omega) (by omega) (aga14)
  refine g_lv [0, 1] rfl ?_
  refine g_widen (k := 6 + 0) (n := 41 + 10 * 0) (by omega) (by omega) ?_
  exact lp_98 _ 0 a12 (Nat.lt_succ_self _) (Nat.zero_le _) (aga12)
