abbrev rm_X6_hole : Room := { frames := 7, cells := 3, slots := 18, locals := 104 }
theorem hd_X6_hole : yX6_hole.cls = RX6 ∧ yX6_hole.cls ≠ "java/lang/invoke/MethodHandle" ∧ yX6_hole.cls ≠ "java/lang/invoke/VarHandle" ∧ (parseMethodDescriptor yX6_hole.desc).map (fun d => d.parameters.length) = some 3 := by decide +kernel
set_option maxRecDepth 100000 in
set_option maxHeartbeats 4000000 in
theorem k_X6_hole {D : va_G} {dT : Nat → ClassId} {ad : Nat → Nat} (I : Nat → Nat → Int32) (r row t : Int32) : KTI yX6_hole wsX6_hole rm_X6_hole D dT ad I [.ref (ad 0), .int r, .int row, .int t] 3 18 (fun q9 J => kpu I r row t = 0 ∧ I = J ∧ hh I r.toNatClampNeg row t = q9) (fun E => (E = xIO ∧ (kpu I r row t) = 1) ∨ (E = xIA ∧ (kpu I r row t) = 2)) := by
  intro l9 hl9
  refine ti_of hl9 (own := RX6) (cc := cX6_hole) (maxL := 5) (some .boolean) [(0, .ref (ad 0)), (1, .int r), (2, .int row), (3, .int t)] (by decide) rfl rfl rfl (Nat.le_of_ble_eq_true rfl) ?_
  intro X hX hE hN
  have hQ := FI.x hE
  refine g_aload_n hX 0 rfl dX6_hole_0 rfl ?_
  refine g_iload_n hX 1 rfl dX6_hole_1 rfl ?_
  refine ct_callQ_V hX hQ [.int r] 10 (by decide) rfl (by decide) rfl (k_X6_demandPaper I r) gX6_hole_X6_demandPaper rfl rfl rfl hd_X6_demandPaper ⟨Nat.le_of_ble_eq_true rfl, Nat.le_of_ble_eq_true rfl⟩ ⟨Nat.le_of_ble_eq_true rfl, Nat.le_of_ble_eq_true rfl⟩ (Nat.le_of_ble_eq_true rfl) (Nat.le_of_ble_eq_true rfl) (fun E h9 => by obtain ⟨rfl, h9⟩ := h9; exact ⟨rfl, by simp [kpu, h9]⟩) rfl (Nat.le_of_ble_eq_true rfl) dX6_hole_2 (fun r_2 J_2 h_2 => ?_)
  obtain ⟨rfl, rfl, hi_2, rp_2⟩ := h_2
  refine g_stk (st2 := .ref (ad (4 + r.toNatClampNeg)) :: []) rfl ?_
  refine g_astore hX [(4, .ref (ad (4 + r.toNatClampNeg))), (0, .ref (ad 0)), (1, .int r), (2, .int row), (3, .int t)] rfl dX6_hole_5 (by decide) ?_
  refine g_iload_n hX 3 rfl dX6_hole_7 rfl ?_
  refine g_iconst hX (0) dX6_hole_8 rfl ?_
  refine g_sipush hX (199) dX6_hole_9 rfl ?_
  refine ct_callV_S hX hQ [.int row, .int 0, .int 199] (k_X6_demandWithin I row 0 199) gX6_hole_X6_demandWithin rfl rfl rfl hd_X6_demandWithin.2 ⟨Nat.le_of_ble_eq_true rfl, Nat.le_of_ble_eq_true rfl⟩ ⟨Nat.le_of_ble_eq_true rfl, Nat.le_of_ble_eq_true rfl⟩ (Nat.le_of_ble_eq_true rfl) (Nat.le_of_ble_eq_true rfl) (fun E h9 => by obtain ⟨rfl, h9⟩ := h9; exact ⟨rfl, by simp [kpu, h9, rp_2]⟩) rfl (Nat.le_of_ble_eq_true rfl) dX6_hole_12 (fun J_12 h_12 => ?_)
  obtain ⟨rfl, w_12⟩ := h_12
  refine g_iload_n hX 4 rfl dX6_hole_15 rfl ?_
  refine g_iconst hX (0) dX6_hole_16 rfl ?_
  refine g_bipush hX (15) dX6_hole_17 rfl ?_
  refine ct_callV_S hX hQ [.int t, .int 0, .int 15] (k_X6_demandWithin I t 0 15) gX6_hole_X6_demandWithin rfl rfl rfl hd_X6_demandWithin.2 ⟨Nat.le_of_ble_eq_true rfl, Nat.le_of_ble_eq_true rfl⟩ ⟨Nat.le_of_ble_eq_true rfl, Nat.le_of_ble_eq_true rfl⟩ (Nat.le_of_ble_eq_true rfl) (Nat.le_of_ble_eq_true rfl) (fun E h9 => by obtain ⟨rfl, h9⟩ := h9; exact ⟨rfl, by simp [kpu, h9, rp_2, w_12]⟩) rfl (Nat.le_of_ble_eq_true rfl) dX6_hole_19 (fun J_19 h_19 => ?_)
  obtain ⟨rfl, w_19⟩ := h_19
  refine g_aload hX 0 rfl dX6_hole_22 ?_
  refine g_iload_n hX 3 rfl dX6_hole_24 rfl ?_
  refine g_iload_n hX 4 rfl dX6_hole_25 rfl ?_
  refine c_callI_V hX [.int row, .int t] 5 (by omega) (cK_p hi_2) (by decide) rfl (k_X1_hasHole I r.toNatClampNeg hi_2 row t) gX6_hole_X1_hasHole rfl rfl rfl hd_X1_hasHole ⟨Nat.le_of_ble_eq_true rfl, Nat.le_of_ble_eq_true rfl⟩ ⟨Nat.le_of_ble_eq_true rfl, Nat.le_of_ble_eq_true rfl⟩ rfl (Nat.le_of_ble_eq_true rfl) dX6_hole_26 (fun r_26 J_26 h_26 => ?_)
  obtain ⟨rfl, rfl⟩ := h_26
  refine t_zret hX (nz_hh _ _ _ _) hE dX6_hole_29 (Nat.le_of_ble_eq_true rfl) (Nat.le_of_ble_eq_true rfl) ?_
  exact ⟨_, rfl, by simp [kpu, rp_2, w_12, w_19], rfl, rfl⟩
abbrev rm_X6_length : Room := { frames := 7, cells := 1, slots := 6, locals := 103 }
theorem hd_X6_length : yX6_length.cls = RX6 ∧ yX6_length.cls ≠ "java/lang/invoke/MethodHandle" ∧ yX6_length.cls ≠ "java/lang/invoke/VarHandle" ∧ (parseMethodDescriptor yX6_length.desc).map (fun d => d.parameters.length) = some 1 := by decide +kernel
set_option maxRecDepth 100000 in
set_option maxHeartbeats 4000000 in
theorem k_X6_length {D : va_G} {dT : Nat → ClassId} {ad : Nat → Nat} (I : Nat → Nat → Int32) (r : Int32) : KTI yX6_length wsX6_length rm_X6_length D dT ad I [.ref (ad 0), .int r] 1 6 (fun q9 J => kr1 I r = 0 ∧ I = J ∧ crw (I (8 + r.toNatClampNeg)) 200 = q9) (fun E => (E = xIO ∧ (kr1 I r) = 1)) := by
  intro l9 hl9
  refine ti_of hl9 (own := RX6) (cc := cX6_length) (maxL := 2) (some .int) [(0, .ref (ad 0)), (1, .int r)] (by decide) rfl rfl rfl (Nat.le_of_ble_eq_true rfl) ?_
  intro X hX hE hN
  have hQ := FI.x hE
  refine g_aload_n hX 0 rfl dX6_length_0 rfl ?_
  refine g_iload_n hX 1 rfl dX6_length_1 rfl ?_
  refine ct_callQ_V hX hQ [.int r] 10 (by decide) rfl (by decide) rfl (k_X6_demandPaper I r) gX6_length_X6_demandPaper rfl rfl rfl hd_X6_demandPaper ⟨Nat.le_of_ble_eq_true rfl, Nat.le_of_ble_eq_true rfl⟩ ⟨Nat.le_of_ble_eq_true rfl, Nat.le_of_ble_eq_true rfl⟩ (Nat.le_of_ble_eq_true rfl) (Nat.le_of_ble_eq_true rfl) (fun E h9 => by obtain ⟨rfl, h9⟩ := h9; exact ⟨rfl, by simp [kr1, h9]⟩) rfl (Nat.le_of_ble_eq_true rfl) dX6_length_2 (fun r_2 J_2 h_2 => ?_)
  obtain ⟨rfl, rfl, hi_2, rp_2⟩ := h_2
  refine g_stk (st2 := .ref (ad (4 + r.toNatClampNeg)) :: []) rfl ?_
  refine c_callI_V hX [] 5 (by omega) (cK_p hi_2) (by decide) rfl (k_X1_countRows I r.toNatClampNeg hi_2) gX6_length_X1_countRows rfl rfl rfl hd_X1_countRows ⟨Nat.le_of_ble_eq_true rfl, Nat.le_of_ble_eq_true rfl⟩ ⟨Nat.le_of_ble_eq_true rfl, Nat.le_of_ble_eq_true rfl⟩ rfl (Nat.le_of_ble_eq_true rfl) dX6_length_5 (fun r_5 J_5 h_5 => ?_)
  obtain ⟨rfl, rfl⟩ := h_5
  refine t_iret hX hE dX6_length_8 (Nat.le_of_ble_eq_true rfl) (Nat.le_of_ble_eq_true rfl) ?_
  exact ⟨_, rfl, by simp [kr1, rp_2], rfl, rfl⟩
abbrev rm_X6_holes : Room := { frames := 7, cells := 2, slots := 12, locals := 104 }
theorem hd_X6_holes : yX6_holes.cls = RX6 ∧ yX6_holes.cls ≠ "java/lang/invoke/MethodHandle" ∧ yX6_holes.cls ≠ "java/lang/invoke/VarHandle" ∧ (parseMethodDescriptor yX6_holes.desc).map (fun d => d.parameters.length) = some 2 := by decide +kernel
set_option maxRecDepth 100000 in
set_option maxHeartbeats 4000000 in
theorem k_X6_holes {D : va_G} {dT : Nat → ClassId} {ad : Nat → Nat} (I : Nat → Nat → Int32) (r t : Int32) : KTI yX6_holes wsX6_holes rm_X6_holes D dT ad I [.ref (ad 0), .int r, .int t] 2 12 (fun q9 J => kho I r t = 0 ∧ I = J ∧ sumB (fun q => bcnt (I (8 + r.toNatClampNeg) q &&& (1 <<< (t &&& 31)))) 200 = q9) (fun E => (E = xIO ∧ (kho I r t) = 1) ∨ (E = xIA ∧ (kho I r t) = 2)) := by
  intro l9 hl9
  refine ti_of hl9 (own := RX6) (cc := cX6_holes) (maxL := 4) (some .int) [(0, .ref (ad 0)), (1, .int r), (2, .int t)] (by decide) rfl rfl rfl (Nat.le_of_ble_eq_true rfl) ?_
  intro X hX hE hN
  have hQ := FI.x hE
  refine g_aload_n hX 0 rfl dX6_holes_0 rfl ?_
  refine g_iload_n hX 1 rfl dX6_holes_1 rfl ?_
  refine ct_callQ_V hX hQ [.int r] 10 (by decide) rfl (by decide) rfl (k_X6_demandPaper I r) gX6_holes_X6_demandPaper rfl rfl rfl hd_X6_demandPaper ⟨Nat.le_of_ble_eq_true rfl, Nat.le_of_ble_eq_true rfl⟩ ⟨Nat.le_of_ble_eq_true rfl, Nat.le_of_ble_eq_true rfl⟩ (Nat.le_of_ble_eq_true rfl) (Nat.le_of_ble_eq_true rfl) (fun E h9 => by obtain ⟨rfl, h9⟩ := h9; exact ⟨rfl, by simp [kho, h9]⟩) rfl (Nat.le_of_ble_eq_true rfl) dX6_holes_2 (fun r_2 J_2 h_2 => ?_)
  obtain ⟨rfl, rfl, hi_2, rp_2⟩ := h_2
  refine g_stk (st2 := .ref (ad (4 + r.toNatClampNeg)) :: []) rfl ?_
  refine g_astore_n hX [(3, .ref (ad (4 + r.toNatClampNeg))), (0, .ref (ad 0)), (1, .int r), (2, .int t)] rfl dX6_holes_5 rfl (by decide) ?_
  refine g_iload_n hX 3 rfl dX6_holes_6 rfl ?_
  refine g_iconst hX (0) dX6_holes_7 rfl ?_
  refine g_bipush hX (15) dX6_holes_8 rfl ?_
  refine ct_callV_S hX hQ [.int t, .int 0, .int 15] (k_X6_demandWithin I t 0 15) gX6_holes_X6_demandWithin rfl rfl rfl hd_X6_demandWithin.2 ⟨Nat.le_of_ble_eq_true rfl, Nat.le_of_ble_eq_true rfl⟩ ⟨Nat.le_of_ble_eq_true rfl, Nat.le_of_ble_eq_true rfl⟩ (Nat.le_of_ble_eq_true rfl) (Nat.le_of_ble_eq_true rfl) (fun E h9 => by obtain ⟨rfl, h9⟩ := h9; exact ⟨rfl, by simp [kho, h9, rp_2]⟩) rfl (Nat.le_of_ble_eq_true rfl) dX6_holes_10 (fun J_10 h_10 => ?_)
  obtain ⟨rfl, w_10⟩ := h_10
  refine g_aload_n hX 0 rfl dX6_holes_13 rfl ?_
  refine g_iconst hX (1) dX6_holes_14 rfl ?_
  refine g_iload_n hX 3 rfl dX6_holes_15 rfl ?_
  refine g_ishl hX dX6_holes_16 ?_
  refine c_callI_V hX [.int (1 <<< (t &&& 31))] 5 (by omega) (cK_p hi_2) (by decide) rfl (k_X1_countHoles I r.toNatClampNeg hi_2 (1 <<< (t &&& 31))) gX6_holes_X1_countHoles rfl rfl rfl hd_X1_countHoles ⟨Nat.le_of_ble_eq_true rfl, Nat.le_of_ble_eq_true rfl⟩ ⟨Nat.le_of_ble_eq_true rfl, Nat.le_of_ble_eq_true rfl⟩ rfl (Nat.le_of_ble_eq_true rfl) dX6_holes_17 (fun r_17 J_17 h_17 => ?_)
  obtain ⟨rfl, rfl⟩ := h_17
  refine t_iret hX hE dX6_holes_20 (Nat.le_of_ble_eq_true rfl) (Nat.le_of_ble_eq_true rfl) ?_
  exact ⟨_, rfl, by simp [kho, rp_2, w_10], rfl, rfl⟩
abbrev rm_X6_unlike : Room := { frames := 7, cells := 2, slots := 12, locals := 103 }
theorem hd_X6_unlike : yX6_unlike.cls = RX6 ∧ yX6_unlike.cls ≠ "java/lang/invoke/MethodHandle" ∧ yX6_unlike.cls ≠ "java/lang/invoke/VarHandle" ∧ (parseMethodDescriptor yX6_unlike.desc).map (fun d => d.parameters.length) = some 2 := by decide +kernel
set_option maxRecDepth 100000 in
set_option maxHeartbeats 4000000 in
theorem k_X6_unlike {D : va_G} {dT : Nat → ClassId} {ad : Nat → Nat} (I : Nat → Nat → Int32) (r o : Int32) : KTI yX6_unlike wsX6_unlike rm_X6_unlike D dT ad I [.ref (ad 0), .int r, .int o] 2 12 (fun q9 J => kun I r o = 0 ∧ I = J ∧ dis I r.toNatClampNeg o.toNatClampNeg = q9) (fun E => (E = xIO ∧ (kun I r o) = 1)) := by
  intro l9 hl9
  refine ti_of hl9 (own := RX6) (cc := cX6_unlike) (maxL := 4) (some .int) [(0, .ref (ad 0)), (1, .int r), (2, .int o)] (by decide) rfl rfl rfl (Nat.le_of_ble_eq_true rfl) ?_
  intro X hX hE hN
  have hQ := FI.x hE
  refine g_aload_n hX 0 rfl dX6_unlike_0 rfl ?_
  refine g_iload_n hX 1 rfl dX6_unlike_1 rfl ?_
  refine ct_callQ_V hX hQ [.int r] 10 (by decide) rfl (by decide) rfl (k_X6_demandPaper I r) gX6_unlike_X6_demandPaper rfl rfl rfl hd_X6_demandPaper ⟨Nat.le_of_ble_eq_true rfl, Nat.le_of_ble_eq_true rfl⟩ ⟨Nat.le_of_ble_eq_true rfl, Nat.le_of_ble_eq_true rfl⟩ (Nat.le_of_ble_eq_true rfl) (Nat.le_of_ble_eq_true rfl) (fun E h9 => by obtain ⟨rfl, h9⟩ := h9; exact ⟨rfl, by simp [kun, h9]⟩) rfl (Nat.le_of_ble_eq_true rfl) dX6_unlike_2 (fun r_2 J_2 h_2 => ?_)
  obtain ⟨rfl, rfl, hi_2, rp_2⟩ := h_2
  refine g_stk (st2 := .ref (ad (4 + r.toNatClampNeg)) :: []) rfl ?_
  refine g_astore_n hX [(3, .ref (ad (4 + r.toNatClampNeg))), (0, .ref (ad 0)), (1, .int r), (2, .int o)] rfl dX6_unlike_5 rfl (by decide) ?_
  refine g_aload_n hX 0 rfl dX6_unlike_6 rfl ?_
  refine g_aload_n hX 1 rfl dX6_unlike_7 rfl ?_
  refine g_iload_n hX 3 rfl dX6_unlike_8 rfl ?_
  refine ct_callQ_V hX hQ [.int o] 10 (by decide) rfl (by decide) rfl (k_X6_demandPaper I o) gX6_unlike_X6_demandPaper rfl rfl rfl hd_X6_demandPaper ⟨Nat.le_of_ble_eq_true rfl, Nat.le_of_ble_eq_true rfl⟩ ⟨Nat.le_of_ble_eq_true rfl, Nat.le_of_ble_eq_true rfl⟩ (Nat.le_of_ble_eq_true rfl) (Nat.le_of_ble_eq_true rfl) (fun E h9 => by obtain ⟨rfl, h9⟩ := h9; exact ⟨rfl, by simp [kun, h9, rp_2]⟩) rfl (Nat.le_of_ble_eq_true rfl) dX6_unlike_9 (fun r_9 J_9 h_9 => ?_)
  obtain ⟨rfl, rfl, hi_9, rp_9⟩ := h_9
  refine g_stk (st2 := .ref (ad (4 + o.toNatClampNeg)) :: [.ref (ad (4 + r.toNatClampNeg))]) rfl ?_
  refine c_callI_V hX [.ref (ad (4 + o.toNatClampNeg))] 5 (by omega) (cK_p hi_2) (by decide) rfl (k_X1_countUnlike I r.toNatClampNeg hi_2 o.toNatClampNeg hi_9) gX6_unlike_X1_countUnlike rfl rfl rfl hd_X1_countUnlike ⟨Nat.le_of_ble_eq_true rfl, Nat.le_of_ble_eq_true rfl⟩ ⟨Nat.le_of_ble_eq_true rfl, Nat.le_of_ble_eq_true rfl⟩ rfl (Nat.le_of_ble_eq_true rfl) dX6_unlike_12 (fun r_12 J_12 h_12 => ?_)
  obtain ⟨rfl, rfl⟩ := h_12
  refine t_iret hX hE dX6_unlike_15 (Nat.le_of_ble_eq_true rfl) (Nat.le_of_ble_eq_true rfl) ?_
  exact ⟨_, rfl, by simp [kun, rp_2, rp_9], rfl, rfl⟩
abbrev rm_X6_scanned : Room := { frames := 7, cells := 1, slots := 6, locals := 103 }
theorem hd_X6_scanned : yX6_scanned.cls = RX6 ∧ yX6_scanned.cls ≠ "java/lang/invoke/MethodHandle" ∧ yX6_scanned.cls ≠ "java/lang/invoke/VarHandle" ∧ (parseMethodDescriptor yX6_scanned.desc).map (fun d => d.parameters.length) = some 1 := by decide +kernel
set_option maxRecDepth 100000 in
set_option maxHeartbeats 4000000 in
theorem k_X6_scanned {D : va_G} {dT : Nat → ClassId} {ad : Nat → Nat} (I : Nat → Nat → Int32) (r : Int32) : KTI yX6_scanned wsX6_scanned rm_X6_scanned D dT ad I [.ref (ad 0), .int r] 1 6 (fun q9 J => kr1 I r = 0 ∧ I = J ∧ sumB (fun q => bcnt (fb I r.toNatClampNeg (nI q))) 200 = q9) (fun E => (E = xIO ∧ (kr1 I r) = 1)) := by
  intro l9 hl9
  refine ti_of hl9 (own := RX6) (cc := cX6_scanned) (maxL := 2) (some .int) [(0, .ref (ad 0)), (1, .int r)] (by decide) rfl rfl rfl (Nat.le_of_ble_eq_true rfl) ?_
  intro X hX hE hN
  have hQ := FI.x hE
  refine g_aload_n hX 0 rfl dX6_scanned_0 rfl ?_
  refine g_iload_n hX 1 rfl dX6_scanned_1 rfl ?_
  refine ct_callQ_V hX hQ [.int r] 10 (by decide) rfl (by decide) rfl (k_X6_demandPaper I r) gX6_scanned_X6_demandPaper rfl rfl rfl hd_X6_demandPaper ⟨Nat.le_of_ble_eq_true rfl, Nat.le_of_ble_eq_true rfl⟩ ⟨Nat.le_of_ble_eq_true rfl, Nat.le_of_ble_eq_true rfl⟩ (Nat.le_of_ble_eq_true rfl) (Nat.le_of_ble_eq_true rfl) (fun E h9 => by obtain ⟨rfl, h9⟩ := h9; exact ⟨rfl, by simp [kr1, h9]⟩) rfl (Nat.le_of_ble_eq_true rfl) dX6_scanned_2 (fun r_2 J_2 h_2 => ?_)
  obtain ⟨rfl, rfl, hi_2, rp_2⟩ := h_2
  refine g_stk (st2 := .ref (ad (4 + r.toNatClampNeg)) :: []) rfl ?_
  refine c_callI_V hX [] 5 (by omega) (cK_p hi_2) (by decide) rfl (k_X1_countNotes I r.toNatClampNeg hi_2) gX6_scanned_X1_countNotes rfl rfl rfl hd_X1_countNotes ⟨Nat.le_of_ble_eq_true rfl, Nat.le_of_ble_eq_true rfl⟩ ⟨Nat.le_of_ble_eq_true rfl, Nat.le_of_ble_eq_true rfl⟩ rfl (Nat.le_of_ble_eq_true rfl) dX6_scanned_5 (fun r_5 J_5 h_5 => ?_)
  obtain ⟨rfl, rfl⟩ := h_5
  refine t_iret hX hE dX6_scanned_8 (Nat.le_of_ble_eq_true rfl) (Nat.le_of_ble_eq_true rfl) ?_
  exact ⟨_, rfl, by simp [kr1, rp_2], rfl, rfl⟩
abbrev rm_X6_copy : Room := { frames := 7, cells := 3, slots := 18, locals := 103 }
theorem hd_X6_copy : yX6_copy.cls = RX6 ∧ yX6_copy.cls ≠ "java/lang/invoke/MethodHandle" ∧ yX6_copy.cls ≠ "java/lang/invoke/VarHandle" ∧ (parseMethodDescriptor yX6_copy.desc).map (fun d => d.parameters.length) = some 1 := by decide +kernel
set_option maxRecDepth 100000 in
set_option maxHeartbeats 4000000 in
theorem k_X6_copy {D : va_G} {dT : Nat → ClassId} {ad : Nat → Nat} (I : Nat → Nat → Int32) (np : Nat) (hnp : I 0 6 = nI np) (hn4 : np ≤ 4) (r : Int32) : KTI yX6_copy wsX6_copy rm_X6_copy D dT ad I [.ref (ad 0), .int r] 3 18 (fun q J => kcp I r = 0 ∧ upr (up2 I 0 6 (I 0 6 + 1)) (8 + np) (fun q => if q < 200 then (up2 I 0 6 (I 0 6 + 1)) (8 + r.toNatClampNeg) q else (up2 I 0 6 (I 0 6 + 1)) (8 + np) q) = J ∧ nI np = q) (fun E => (E = xIO ∧ (kcp I r) = 1) ∨ (E = xIS ∧ (kcp I r) = 2)) := by
  intro l9 hl9
  refine ti_of hl9 (own := RX6) (cc := cX6_copy) (maxL := 4) (some .int) [(0, .ref (ad 0)), (1, .int r)] (by decide) rfl rfl rfl (Nat.le_of_ble_eq_true rfl) ?_
  intro X hX hE hN
  have hQ := FI.x hE
  refine g_aload_n hX 0 rfl dX6_copy_0 rfl ?_
  refine g_iload_n hX 1 rfl dX6_copy_1 rfl ?_
  refine ct_callQ_V hX hQ [.int r] 10 (by decide) rfl (by decide) rfl (k_X6_demandPaper I r) gX6_copy_X6_demandPaper rfl rfl rfl hd_X6_demandPaper ⟨Nat.le_of_ble_eq_true rfl, Nat.le_of_ble_eq_true rfl⟩ ⟨Nat.le_of_ble_eq_true rfl, Nat.le_of_ble_eq_true rfl⟩ (Nat.le_of_ble_eq_true rfl) (Nat.le_of_ble_eq_true rfl) (fun E h9 => by obtain ⟨rfl, h9⟩ := h9; exact ⟨rfl, by simp [kcp, h9]⟩) rfl (Nat.le_of_ble_eq_true rfl) dX6_copy_2 (fun r_2 J_2 h_2 => ?_)
  obtain ⟨rfl, rfl, hi_2, rp_2⟩ := h_2
  refine g_stk (st2 := .ref (ad (4 + r.toNatClampNeg)) :: []) (by first | rfl | (rw [nI_clamp (by omega)]; rfl)) ?_
  refine g_astore_n hX [(2, .ref (ad (4 + r.toNatClampNeg))), (0, .ref (ad 0)), (1, .int r)] rfl dX6_copy_5 rfl (by decide) ?_
  refine g_aload_n hX 1 rfl dX6_copy_6 rfl ?_
  refine ct_callV_V hX hQ [] 10 (by decide) rfl (by decide) rfl (k_X6_demandRoomForRoll I ) gX6_copy_X6_demandRoomForRoll rfl rfl rfl hd_X6_demandRoomForRoll ⟨Nat.le_of_ble_eq_true rfl, Nat.le_of_ble_eq_true rfl⟩ ⟨Nat.le_of_ble_eq_true rfl, Nat.le_of_ble_eq_true rfl⟩ (Nat.le_of_ble_eq_true rfl) (Nat.le_of_ble_eq_true rfl) (fun E h9 => by obtain ⟨rfl, h9⟩ := h9; exact ⟨rfl, by simp [kcp, h9, rp_2]⟩) rfl (Nat.le_of_ble_eq_true rfl) dX6_copy_7 (fun J_7 h_7 => ?_)
  obtain ⟨rfl, w_7⟩ := h_7
  refine g_aload_n hX 1 rfl dX6_copy_10 rfl ?_
  refine c_callI_V hX [] 10 (by decide) rfl (by decide) rfl (k_X6_addRoll I ) gX6_copy_X6_addRoll rfl rfl rfl hd_X6_addRoll ⟨Nat.le_of_ble_eq_true rfl, Nat.le_of_ble_eq_true rfl⟩ ⟨Nat.le_of_ble_eq_true rfl, Nat.le_of_ble_eq_true rfl⟩ rfl (Nat.le_of_ble_eq_true rfl) dX6_copy_11 (fun r_11 J_11 h_11 => ?_)
  obtain ⟨rfl, rfl⟩ := h_11
  refine g_eqi (y := nI np) (by rw [hnp, nI_1]; exact nI_pred np) ?_
  refine g_istore_n hX [(3, .int (nI np)), (2, .ref (ad (4 + r.toNatClampNeg))), (0, .ref (ad 0)), (1, .int r)] rfl dX6_copy_14 rfl (by decide) ?_
  refine g_aload_n hX 2 rfl dX6_copy_15 rfl ?_
  refine g_iload_n hX 0 rfl dX6_copy_16 rfl ?_
  refine ct_callQ_V hX hQ [.int (nI np)] 10 (by decide) rfl (by decide) rfl (k_X6_demandPaper (up2 I 0 6 (I 0 6 + 1)) (nI np)) gX6_copy_X6_demandPaper rfl rfl rfl hd_X6_demandPaper ⟨Nat.le_of_ble_eq_true rfl, Nat.le_of_ble_eq_true rfl⟩ ⟨Nat.le_of_ble_eq_true rfl, Nat.le_of_ble_eq_true rfl⟩ (Nat.le_of_ble_eq_true rfl) (Nat.le_of_ble_eq_true rfl) (fun E h9 => absurd (h9.2.symm.trans (rp_in (by rw [up2_s, hnp, nI_1]) (Nat.lt_succ_self np) (by have := (nI_ltI (a := np) (b := 4) (by omega) (by omega)).mp (by rw [← hnp]; exact w_7); omega))) (by decide)) rfl (Nat.le_of_ble_eq_true rfl) dX6_copy_17 (fun r_17 J_17 h_17 => ?_)
  obtain ⟨rfl, rfl, hi_17, rp_17⟩ := h_17
  refine g_stk (st2 := .ref (ad (4 + np)) :: []) (by first | rfl | (rw [nI_clamp (by omega)]; rfl)) ?_
  refine g_aload_n hX 1 rfl dX6_copy_20 rfl ?_
  refine c_callV_V hX [.ref (ad (4 + r.toNatClampNeg))] 5 (by omega) (cK_p (np_lt hnp hn4 w_7)) (by decide) rfl (k_X1_takeHolesOf (up2 I 0 6 (I 0 6 + 1)) np (np_lt hnp hn4 w_7) r.toNatClampNeg hi_2 (rp_ne hnp rp_2 hn4)) gX6_copy_X1_takeHolesOf rfl rfl rfl hd_X1_takeHolesOf ⟨Nat.le_of_ble_eq_true rfl, Nat.le_of_ble_eq_true rfl⟩ ⟨Nat.le_of_ble_eq_true rfl, Nat.le_of_ble_eq_true rfl⟩ rfl (Nat.le_of_ble_eq_true rfl) dX6_copy_21 (fun J_21 h_21 => ?_)
  subst h_21
  refine g_iload_n hX 0 rfl dX6_copy_24 rfl ?_
  refine t_iret hX hE dX6_copy_25 (Nat.le_of_ble_eq_true rfl) (Nat.le_of_ble_eq_true rfl) ?_
  exact ⟨_, rfl, by simp [kcp, rp_2, w_7], rfl, rfl⟩
abbrev rm_X6_parent : Room := { frames := 7, cells := 8, slots := 48, locals := 103 }
theorem hd_X6_parent : yX6_parent.cls = RX6 ∧ yX6_parent.cls ≠ "java/lang/invoke/MethodHandle" ∧ yX6_parent.cls ≠ "java/lang/invoke/VarHandle" ∧ (parseMethodDescriptor yX6_parent.desc).map (fun d => d.parameters.length) = some 1 := by decide +kernel
set_option maxRecDepth 100000 in
set_option maxHeartbeats 4000000 in
theorem k_X6_parent {D : va_G} {dT : Nat → ClassId} {ad : Nat → Nat} (I : Nat → Nat → Int32) (np : Nat) (hnp : I 0 6 = nI np) (hn4 : np ≤ 4) (r : Int32) : KTI yX6_parent wsX6_parent rm_X6_parent D dT ad I [.ref (ad 0), .int r] 8 48 (fun q J => kpa I r = 0 ∧ I = J ∧ nI (pfl I r.toNatClampNeg (r.toNatClampNeg - 1) 1 0 (dis I r.toNatClampNeg 0)) = q) (fun E => (E = xIO ∧ (kpa I r) = 1) ∨ (E = xNS ∧ (kpa I r) = 2)) := by
  intro l9 hl9
  refine ti_of hl9 (own := RX6) (cc := cX6_parent) (maxL := 7) (some .int) [(0, .ref (ad 0)), (1, .int r)] (by decide) rfl rfl rfl (Nat.le_of_ble_eq_true rfl) ?_
  intro X hX hE hN
  have hQ := FI.x hE
  have q_w1 : Cond.classLink RX6 100 "java/util/NoSuchElementException" ∈ wsX6_parent := List.mem_of_getElem? (i := 1) rfl
  have q_w2 : Cond.initialized "java/util/NoSuchElementException" ∈ wsX6_parent := List.mem_of_getElem? (i := 2) rfl
  have q_hat104 : ∀ w ∈ nx_at.filter goodWord, w ∈ wsX6_parent := by decide +kernel
  by_cases hr0 : rp I r = 0
  · refine g_aload_n hX 0 rfl dX6_parent_0 rfl ?_
    refine g_iload_n hX 1 rfl dX6_parent_1 rfl ?_
    refine ct_callQ_V hX hQ [.int r] 10 (by decide) rfl (by decide) rfl (k_X6_demandPaper I r) gX6_parent_X6_demandPaper rfl rfl rfl hd_X6_demandPaper ⟨Nat.le_of_ble_eq_true rfl, Nat.le_of_ble_eq_true rfl⟩ ⟨Nat.le_of_ble_eq_true rfl, Nat.le_of_ble_eq_true rfl⟩ (Nat.le_of_ble_eq_true rfl) (Nat.le_of_ble_eq_true rfl) (fun E h9 => by obtain ⟨rfl, h9⟩ := h9; exact ⟨rfl, by simp [kpa, h9]⟩) rfl (Nat.le_of_ble_eq_true rfl) dX6_parent_2 (fun r_2 J_2 h_2 => ?_)
    obtain ⟨rfl, rfl, hi_2, rp_2⟩ := h_2
    refine g_stk (st2 := .ref (ad (4 + r.toNatClampNeg)) :: []) (by first | rfl | (rw [nI_clamp (by omega)]; rfl)) ?_
    exact absurd (hr0.symm.trans rp_2) (by decide)
  · have hr9 := rp_1 hr0
    obtain ⟨i, hi, rfl⟩ : ∃ i, i < 4 ∧ r = nI i := ⟨_, (rp_ix hr0).2, (rp_ix hr0).1⟩
    refine g_aload_n hX 0 rfl dX6_parent_0 rfl ?_
    refine g_iload_n hX 1 rfl dX6_parent_1 rfl ?_
    refine ct_callQ_V hX hQ [.int (nI i)] 10 (by decide) rfl (by decide) rfl (k_X6_demandPaper I (nI i)) gX6_parent_X6_demandPaper rfl rfl rfl hd_X6_demandPaper ⟨Nat.le_of_ble_eq_true rfl, Nat.le_of_ble_eq_true rfl⟩ ⟨Nat.le_of_ble_eq_true rfl, Nat.le_of_ble_eq_true rfl⟩ (Nat.le_of_ble_eq_true rfl) (Nat.le_of_ble_eq_true rfl) (fun E h9 => by obtain ⟨rfl, h9⟩ := h9; exact ⟨rfl, by simp [kpa, h9]⟩) rfl (Nat.le_of_ble_eq_true rfl) dX6_parent_2 (fun r_2 J_2 h_2 => ?_)
    obtain ⟨rfl, rfl, hi_2, rp_2⟩ := h_2
    refine g_stk (st2 := .ref (ad (4 + i)) :: []) (by first | rfl | (rw [nI_clamp (by omega)]; rfl)) ?_
    refine g_astore_n hX [(2, .ref (ad (4 + i))), (0, .ref (ad 0)), (1, .int (nI i))] rfl dX6_parent_5 rfl (by decide) ?_
    refine g_iload_n hX 2 rfl dX6_parent_6 rfl ?_
    refine g_if_ne (tgt := 20) hX dX6_parent_7 (by decide) (fun c_7 => ?_) (fun c_7 => ?_)
    · refine g_iconst hX (0) dX6_parent_20 rfl ?_
      refine g_istore_n hX [(3, .int 0), (2, .ref (ad (4 + i))), (0, .ref (ad 0)), (1, .int (nI i))] rfl dX6_parent_21 rfl (by decide) ?_
      refine g_aload_n hX 1 rfl dX6_parent_22 rfl ?_
      refine g_aload_n hX 2 rfl dX6_parent_23 rfl ?_
      refine g_iconst hX (0) dX6_parent_24 rfl ?_
      refine ct_callQ_V hX hQ [.int 0] 10 (by decide) rfl (by decide) rfl (k_X6_demandPaper I (0 : Int32)) gX6_parent_X6_demandPaper rfl rfl rfl hd_X6_demandPaper ⟨Nat.le_of_ble_eq_true rfl, Nat.le_of_ble_eq_true rfl⟩ ⟨Nat.le_of_ble_eq_true rfl, Nat.le_of_ble_eq_true rfl⟩ (Nat.le_of_ble_eq_true rfl) (Nat.le_of_ble_eq_true rfl) (fun E h9 => absurd (h9.2.symm.trans (rp_in hnp (show 0 < np by have := rp_lt hnp hn4 hr9 (by omega); omega) (by decide))) (by decide)) rfl (Nat.le_of_ble_eq_true rfl) dX6_parent_25 (fun r_25 J_25 h_25 => ?_)
      obtain ⟨rfl, rfl, hi_25, rp_25⟩ := h_25
      refine g_stk (st2 := .ref (ad (4 + 0)) :: [.ref (ad (4 + i))]) (by first | rfl | (rw [nI_clamp (by omega)]; rfl)) ?_
      refine c_callI_V hX [.ref (ad (4 + 0))] 5 (by omega) (cK_p hi) (by decide) rfl (k_X1_countUnlike I i hi 0 (by omega)) gX6_parent_X1_countUnlike rfl rfl rfl hd_X1_countUnlike ⟨Nat.le_of_ble_eq_true rfl, Nat.le_of_ble_eq_true rfl⟩ ⟨Nat.le_of_ble_eq_true rfl, Nat.le_of_ble_eq_true rfl⟩ rfl (Nat.le_of_ble_eq_true rfl) dX6_parent_28 (fun r_28 J_28 h_28 => ?_)
      obtain ⟨rfl, rfl⟩ := h_28
      refine g_istore hX [(4, .int (sumB (fun q9 => bcnt (I (8 + i) q9 ^^^ I (8 + 0) q9)) 200)), (3, .int 0), (2, .ref (ad (4 + i))), (0, .ref (ad 0)), (1, .int (nI i))] rfl dX6_parent_31 (by decide) ?_
      refine g_iconst hX (1) dX6_parent_33 rfl ?_
      refine g_istore hX [(5, .int 1), (4, .int (sumB (fun q9 => bcnt (I (8 + i) q9 ^^^ I (8 + 0) q9)) 200)), (3, .int 0), (2, .ref (ad (4 + i))), (0, .ref (ad 0)), (1, .int (nI i))] rfl dX6_parent_34 (by decide) ?_
      have lp_36 : ∀ (n9 : Nat) (k : Nat) (b : Nat) (q : Int32), i - k < n9 → k ≤ i → pfl I i (i - 1) 1 0 (dis I i 0) = pfl I i (i - k) k b q → CG X D dT ad I [(5, .int (nI k)), (4, .int q), (3, .int (nI b)), (2, .ref (ad (4 + i))), (0, .ref (ad 0)), (1, .int (nI i))] (1 + k) (6 + 6 * k) 36 [] := by
        intro n9
        induction n9 with
        | zero => intro k b q h9; exact absurd h9 (Nat.not_lt_zero _)
        | succ n9 ih9 =>
          intro k b q h9 hk hs
          have ih_36 := ih9
          refine g_iload hX 0 rfl dX6_parent_36 ?_
          refine g_iload_n hX 5 rfl dX6_parent_38 rfl ?_
          refine g_icmp_ge (tgt := 74) hX dX6_parent_39 (by decide) (fun c_39 => ?_) (fun c_39 => ?_)
          · have c_39 : i ≤ k := (nI_leI (a := i) (b := k) (by omega) (by omega)).mp c_39
            refine g_iload_n hX 2 rfl dX6_parent_74 rfl ?_
            refine t_iret hX hE dX6_parent_75 (by omega) (by omega) ?_
            exact ⟨_, rfl, by simp only [kpa, hr9, c_7, i10, if_false], rfl, by rw [nI_clamp (by omega), hs, show i - k = 0 by omega]; rfl⟩
          · have c_39 : ¬ i ≤ k := fun h9 => c_39 ((nI_leI (a := i) (b := k) (by omega) (by omega)).mpr h9)
            refine g_aload_n hX 3 rfl dX6_parent_42 rfl ?_
            refine g_aload_n hX 4 rfl dX6_parent_43 rfl ?_
            refine g_iload hX 0 rfl dX6_parent_44 ?_
            refine ct_callQ_V hX hQ [.int (nI k)] 10 (by decide) rfl (by decide) rfl (k_X6_demandPaper I (nI k)) gX6_parent_X6_demandPaper rfl rfl rfl hd_X6_demandPaper ⟨Nat.le_of_ble_eq_true rfl, Nat.le_of_ble_eq_true rfl⟩ ⟨by simp only [rm_X6_parent]; omega, by simp only [rm_X6_parent]; omega⟩ (by omega) (by omega) (fun E h9 => absurd (h9.2.symm.trans (rp_in hnp (show k < np by have := rp_lt hnp hn4 hr9 (by omega); omega) (by omega))) (by decide)) rfl (Nat.le_of_ble_eq_true rfl) dX6_parent_46 (fun r_46 J_46 h_46 => ?_)
            obtain ⟨rfl, rfl, hi_46, rp_46⟩ := h_46
            refine g_stk (st2 := .ref (ad (4 + k)) :: [.ref (ad (4 + i))]) (by first | rfl | (rw [nI_clamp (by omega)]; rfl)) ?_
            refine c_callI_V hX [.ref (ad (4 + k))] 5 (by omega) (cK_p hi) (by decide) rfl (k_X1_countUnlike I i hi k (by omega)) gX6_parent_X1_countUnlike rfl rfl rfl hd_X1_countUnlike ⟨Nat.le_of_ble_eq_true rfl, Nat.le_of_ble_eq_true rfl⟩ ⟨by simp only [rm_X6_parent]; omega, by simp only [rm_X6_parent]; omega⟩ rfl (Nat.le_of_ble_eq_true rfl) dX6_parent_49 (fun r_49 J_49 h_49 => ?_)
            obtain ⟨rfl, rfl⟩ := h_49
            refine g_istore hX [(6, .int (sumB (fun q9 => bcnt (I (8 + i) q9 ^^^ I (8 + k) q9)) 200)), (5, .int (nI k)), (4, .int q), (3, .int (nI b)), (2, .ref (ad (4 + i))), (0, .ref (ad 0)), (1, .int (nI i))] rfl dX6_parent_52 (by decide) ?_
            refine g_iload hX 0 rfl dX6_parent_54 ?_
            refine g_iload hX 2 rfl dX6_parent_56 ?_
            refine g_icmp_ge (tgt := 68) hX dX6_parent_58 (by decide) (fun c_58 => ?_) (fun c_58 => ?_)
            · refine g_iinc hX (nI (k + 1)) [(5, .int (nI (k + 1))), (6, .int (sumB (fun q9 => bcnt (I (8 + i) q9 ^^^ I (8 + k) q9)) 200)), (4, .int q), (3, .int (nI b)), (2, .ref (ad (4 + i))), (0, .ref (ad 0)), (1, .int (nI i))] (k := 1) rfl (g_inc k) rfl dX6_parent_68 (by decide) ?_
              refine g_goto (tgt := 36) hX dX6_parent_71 (by decide) ?_
              refine g_lv [0, 2, 3, 4, 5, 6] rfl ?_
              refine g_widen (k := (1 + (k + 1))) (n := (6 + 6 * (k + 1))) (by omega) (by omega) ?_
              exact ih_36 (k + 1) b q (by omega) (by omega) (hs.trans (by rw [show i - k = (i - (k + 1)) + 1 by omega, pfl]; simp only [dis, c_58, if_true, if_false]))
            · refine g_iload hX 1 rfl dX6_parent_61 ?_
              refine g_istore_n hX [(3, .int (nI k)), (6, .int (sumB (fun q9 => bcnt (I (8 + i) q9 ^^^ I (8 + k) q9)) 200)), (5, .int (nI k)), (4, .int q), (2, .ref (ad (4 + i))), (0, .ref (ad 0)), (1, .int (nI i))] rfl dX6_parent_63 rfl (by decide) ?_
              refine g_iload hX 1 rfl dX6_parent_64 ?_
              refine g_istore hX [(4, .int (sumB (fun q9 => bcnt (I (8 + i) q9 ^^^ I (8 + k) q9)) 200)), (3, .int (nI k)), (6, .int (sumB (fun q9 => bcnt (I (8 + i) q9 ^^^ I (8 + k) q9)) 200)), (5, .int (nI k)), (2, .ref (ad (4 + i))), (0, .ref (ad 0)), (1, .int (nI i))] rfl dX6_parent_66 (by decide) ?_
              refine g_iinc hX (nI (k + 1)) [(5, .int (nI (k + 1))), (4, .int (sumB (fun q9 => bcnt (I (8 + i) q9 ^^^ I (8 + k) q9)) 200)), (3, .int (nI k)), (6, .int (sumB (fun q9 => bcnt (I (8 + i) q9 ^^^ I (8 + k) q9)) 200)), (2, .ref (ad (4 + i))), (0, .ref (ad 0)), (1, .int (nI i))] (k := 3) rfl (g_inc k) rfl dX6_parent_68 (by decide) ?_
              refine g_goto (tgt := 36) hX dX6_parent_71 (by decide) ?_
              refine g_lv [0, 1, 2, 4, 5, 6] rfl ?_
              refine g_widen (k := (1 + (k + 1))) (n := (6 + 6 * (k + 1))) (by omega) (by omega) ?_
              exact ih_36 (k + 1) k (sumB (fun q9 => bcnt (I (8 + i) q9 ^^^ I (8 + k) q9)) 200) (by omega) (by omega) (hs.trans (by rw [show i - k = (i - (k + 1)) + 1 by omega, pfl]; simp only [dis, c_58, if_true, if_false]))
      refine g_lv [0, 1, 2, 3, 4, 5] rfl ?_
      exact lp_36 _ 1 0 (sumB (fun q9 => bcnt (I (8 + i) q9 ^^^ I (8 + 0) q9)) 200) (Nat.lt_succ_self _) (by have : i ≠ 0 := fun h => c_7 (by rw [h]; rfl); omega) rfl
    · refine t_throwN hX hQ (text := "no roll has a lower number") q_w1 q_w2 (by decide) q_hat104 hat_104 hgd_104 dX6_parent_10 dX6_parent_13 dX6_parent_14 dX6_parent_16 dX6_parent_19 (Nat.le_of_ble_eq_true rfl) (Nat.le_of_ble_eq_true rfl) (Nat.le_of_ble_eq_true rfl) (Nat.le_of_ble_eq_true rfl) (Nat.le_of_ble_eq_true rfl) (Nat.le_of_ble_eq_true rfl) ?_
      refine ⟨rfl, ?_⟩
      simp [kpa, hr9]; exact Or.inr c_7

