abbrev rm_X6_note : Room := { frames := 7, cells := 5, slots := 30, locals := 104 }
theorem hd_X6_note : yX6_note.cls = RX6 ∧ yX6_note.cls ≠ "java/lang/invoke/MethodHandle" ∧ yX6_note.cls ≠ "java/lang/invoke/VarHandle" ∧ (parseMethodDescriptor yX6_note.desc).map (fun d => d.parameters.length) = some 3 := by decide +kernel
set_option maxRecDepth 100000 in
set_option maxHeartbeats 4000000 in
theorem k_X6_note {D : va_G} {dT : Nat → ClassId} {ad : Nat → Nat} (I : Nat → Nat → Int32) (c : Nat) (hc : I 2 3 = nI c) (h40 : c ≤ 40) (f l p : Int32) : KTI yX6_note wsX6_note rm_X6_note D dT ad I [.ref (ad 0), .int f, .int l, .int p] 5 30 (fun q9 J => kno I c f l p = 0 ∧ typ (up2 I 0 7 (-1)) c f l p = J ∧ nI c + 1 = q9) (fun E => (E = xIA ∧ (kno I c f l p) = 1) ∨ (E = xUO ∧ (kno I c f l p) = 2) ∨ (E = xIS ∧ (kno I c f l p) = 3)) := by
  intro l9 hl9
  refine ti_of hl9 (own := RX6) (cc := cX6_note) (maxL := 4) (some .int) [(0, .ref (ad 0)), (1, .int f), (2, .int l), (3, .int p)] (by decide) rfl rfl rfl (Nat.le_of_ble_eq_true rfl) ?_
  intro X hX hE hN
  have hQ := FI.x hE
  have q_w5 : Cond.fieldLink RX6 18 "Perforatum" "music" "LPerforatum$Music;" ∈ wsX6_note := List.mem_of_getElem? (i := 5) rfl
  have q_inX6 : ∀ w ∈ wsX60, w ∈ wsX6_note := by decide +kernel
  have q_w6 : Cond.fieldLink RX6 48 "Perforatum" "arrangedRoll" "I" ∈ wsX6_note := List.mem_of_getElem? (i := 6) rfl
  have q_w3 : Cond.classLink RX6 120 "java/lang/IllegalStateException" ∈ wsX6_note := List.mem_of_getElem? (i := 3) rfl
  have q_w4 : Cond.initialized "java/lang/IllegalStateException" ∈ wsX6_note := List.mem_of_getElem? (i := 4) rfl
  have q_hat124 : ∀ w ∈ (vx_atS RX6 124 "java/lang/IllegalStateException" ["java/lang/RuntimeException", "java/lang/Exception"]).filter goodWord, w ∈ wsX6_note := by decide +kernel
  have q_w1 : Cond.classLink RX6 111 "java/lang/UnsupportedOperationException" ∈ wsX6_note := List.mem_of_getElem? (i := 1) rfl
  have q_w2 : Cond.initialized "java/lang/UnsupportedOperationException" ∈ wsX6_note := List.mem_of_getElem? (i := 2) rfl
  have q_hat115 : ∀ w ∈ (vx_atS RX6 115 "java/lang/UnsupportedOperationException" ["java/lang/RuntimeException", "java/lang/Exception"]).filter goodWord, w ∈ wsX6_note := by decide +kernel
  refine g_iload_n hX 1 rfl dX6_note_0 rfl ?_
  refine g_iconst hX (0) dX6_note_1 rfl ?_
  refine g_sipush hX (199) dX6_note_2 rfl ?_
  refine ct_callV_S hX hQ [.int f, .int 0, .int 199] (k_X6_demandWithin I f 0 199) gX6_note_X6_demandWithin rfl rfl rfl hd_X6_demandWithin.2 ⟨Nat.le_of_ble_eq_true rfl, Nat.le_of_ble_eq_true rfl⟩ ⟨Nat.le_of_ble_eq_true rfl, Nat.le_of_ble_eq_true rfl⟩ (Nat.le_of_ble_eq_true rfl) (Nat.le_of_ble_eq_true rfl) (fun E h9 => by obtain ⟨rfl, h9⟩ := h9; exact ⟨rfl, by simp [kno, h9]⟩) rfl (Nat.le_of_ble_eq_true rfl) dX6_note_5 (fun J_5 h_5 => ?_)
  obtain ⟨rfl, w_5⟩ := h_5
  refine g_iload_n hX 2 rfl dX6_note_8 rfl ?_
  refine g_iconst hX (1) dX6_note_9 rfl ?_
  refine g_bipush hX (60) dX6_note_10 rfl ?_
  refine ct_callV_S hX hQ [.int l, .int 1, .int 60] (k_X6_demandWithin I l 1 60) gX6_note_X6_demandWithin rfl rfl rfl hd_X6_demandWithin.2 ⟨Nat.le_of_ble_eq_true rfl, Nat.le_of_ble_eq_true rfl⟩ ⟨Nat.le_of_ble_eq_true rfl, Nat.le_of_ble_eq_true rfl⟩ (Nat.le_of_ble_eq_true rfl) (Nat.le_of_ble_eq_true rfl) (fun E h9 => by obtain ⟨rfl, h9⟩ := h9; exact ⟨rfl, by simp [kno, h9, w_5]⟩) rfl (Nat.le_of_ble_eq_true rfl) dX6_note_12 (fun J_12 h_12 => ?_)
  obtain ⟨rfl, w_12⟩ := h_12
  refine g_iload_n hX 3 rfl dX6_note_15 rfl ?_
  refine g_iconst hX (0) dX6_note_16 rfl ?_
  refine g_bipush hX (11) dX6_note_17 rfl ?_
  refine ct_callV_S hX hQ [.int p, .int 0, .int 11] (k_X6_demandWithin I p 0 11) gX6_note_X6_demandWithin rfl rfl rfl hd_X6_demandWithin.2 ⟨Nat.le_of_ble_eq_true rfl, Nat.le_of_ble_eq_true rfl⟩ ⟨Nat.le_of_ble_eq_true rfl, Nat.le_of_ble_eq_true rfl⟩ (Nat.le_of_ble_eq_true rfl) (Nat.le_of_ble_eq_true rfl) (fun E h9 => by obtain ⟨rfl, h9⟩ := h9; exact ⟨rfl, by simp [kno, h9, w_5, w_12]⟩) rfl (Nat.le_of_ble_eq_true rfl) dX6_note_19 (fun J_19 h_19 => ?_)
  obtain ⟨rfl, w_19⟩ := h_19
  refine g_iload_n hX 1 rfl dX6_note_22 rfl ?_
  refine g_iload_n hX 2 rfl dX6_note_23 rfl ?_
  refine g_iadd hX dX6_note_24 ?_
  refine g_iconst hX (1) dX6_note_25 rfl ?_
  refine g_isub hX dX6_note_26 ?_
  refine g_iconst hX (0) dX6_note_27 rfl ?_
  refine g_sipush hX (199) dX6_note_28 rfl ?_
  refine ct_callV_S hX hQ [.int ((f + l) - 1), .int 0, .int 199] (k_X6_demandWithin I ((f + l) - 1) 0 199) gX6_note_X6_demandWithin rfl rfl rfl hd_X6_demandWithin.2 ⟨Nat.le_of_ble_eq_true rfl, Nat.le_of_ble_eq_true rfl⟩ ⟨Nat.le_of_ble_eq_true rfl, Nat.le_of_ble_eq_true rfl⟩ (Nat.le_of_ble_eq_true rfl) (Nat.le_of_ble_eq_true rfl) (fun E h9 => by obtain ⟨rfl, h9⟩ := h9; exact ⟨rfl, by simp [kno, h9, w_5, w_12, w_19]⟩) rfl (Nat.le_of_ble_eq_true rfl) dX6_note_31 (fun J_31 h_31 => ?_)
  obtain ⟨rfl, w_31⟩ := h_31
  refine g_aload_n hX 0 rfl dX6_note_34 rfl ?_
  refine cg_X6_music hX (by decide) rfl q_inX6 q_w5 rfl dX6_note_35 ?_
  refine g_iload_n hX 1 rfl dX6_note_38 rfl ?_
  refine g_iload_n hX 2 rfl dX6_note_39 rfl ?_
  refine g_iload_n hX 3 rfl dX6_note_40 rfl ?_
  refine c_callI_V hX [.int f, .int l, .int p] 4 (by decide) rfl (by decide) rfl (k_X0_isTooNear I c hc h40 f l p) gX6_note_X0_isTooNear rfl rfl rfl hd_X0_isTooNear ⟨Nat.le_of_ble_eq_true rfl, Nat.le_of_ble_eq_true rfl⟩ ⟨Nat.le_of_ble_eq_true rfl, Nat.le_of_ble_eq_true rfl⟩ rfl (Nat.le_of_ble_eq_true rfl) dX6_note_41 (fun r_41 J_41 h_41 => ?_)
  obtain ⟨rfl, rfl⟩ := h_41
  refine g_if_eq (tgt := 57) hX dX6_note_44 (by decide) (fun c_44 => ?_) (fun c_44 => ?_)
  · refine g_aload_n hX 0 rfl dX6_note_57 rfl ?_
    refine cg_X6_music hX (by decide) rfl q_inX6 q_w5 rfl dX6_note_58 ?_
    refine c_callI_V hX [] 4 (by decide) rfl (by decide) rfl (k_X0_isFull I c hc h40) gX6_note_X0_isFull rfl rfl rfl hd_X0_isFull ⟨Nat.le_of_ble_eq_true rfl, Nat.le_of_ble_eq_true rfl⟩ ⟨Nat.le_of_ble_eq_true rfl, Nat.le_of_ble_eq_true rfl⟩ rfl (Nat.le_of_ble_eq_true rfl) dX6_note_61 (fun r_61 J_61 h_61 => ?_)
    obtain ⟨rfl, rfl⟩ := h_61
    refine g_if_eq (tgt := 77) hX dX6_note_64 (by decide) (fun c_64 => ?_) (fun c_64 => ?_)
    · refine g_aload_n hX 0 rfl dX6_note_77 rfl ?_
      refine g_iconst hX (-1) dX6_note_78 rfl ?_
      refine cp_X6_arrangedRoll hX (by decide) rfl q_inX6 q_w6 dX6_note_79 ?_
      refine g_aload_n hX 0 rfl dX6_note_82 rfl ?_
      refine cg_X6_music hX (by decide) rfl q_inX6 q_w5 rfl dX6_note_83 ?_
      refine g_iload_n hX 1 rfl dX6_note_86 rfl ?_
      refine g_iload_n hX 2 rfl dX6_note_87 rfl ?_
      refine g_iload_n hX 3 rfl dX6_note_88 rfl ?_
      refine c_callI_V hX [.int f, .int l, .int p] 4 (by decide) rfl (by decide) rfl (k_X0_type (up2 I 0 7 (-1)) c (by rw [up2_row (by decide)]; exact hc) (by by_cases h : c < 40 <;> simp only [h, if_true, if_false, i10] at c_64; exact h) f l p) gX6_note_X0_type rfl rfl rfl hd_X0_type ⟨Nat.le_of_ble_eq_true rfl, Nat.le_of_ble_eq_true rfl⟩ ⟨Nat.le_of_ble_eq_true rfl, Nat.le_of_ble_eq_true rfl⟩ rfl (Nat.le_of_ble_eq_true rfl) dX6_note_89 (fun r_89 J_89 h_89 => ?_)
      obtain ⟨rfl, rfl⟩ := h_89
      refine t_iret hX hE dX6_note_92 (Nat.le_of_ble_eq_true rfl) (Nat.le_of_ble_eq_true rfl) ?_
      exact ⟨_, rfl, by by_cases h : c < 40 <;> simp only [h, if_true, if_false, i10] at c_64; simp [kno, h, c_44, w_5, w_12, w_19, w_31], rfl, rfl⟩
    · refine t_throwS hX hQ (text := "40 notes are typed already") "java/lang/IllegalStateException" rfl (by decide +kernel) q_w3 q_w4 (by decide) q_hat124 hat_124 hgd_124 dX6_note_67 dX6_note_70 dX6_note_71 dX6_note_73 dX6_note_76 (Nat.le_of_ble_eq_true rfl) (Nat.le_of_ble_eq_true rfl) (Nat.le_of_ble_eq_true rfl) (Nat.le_of_ble_eq_true rfl) (Nat.le_of_ble_eq_true rfl) (Nat.le_of_ble_eq_true rfl) ?_
      refine ⟨rfl, ?_⟩
      by_cases h : c < 40
      · exact absurd (if_pos h) c_64
      · simp [kno, h, c_44, w_5, w_12, w_19, w_31]
  · refine t_throwS hX hQ (text := "too near to another note of its pitch") "java/lang/UnsupportedOperationException" rfl (by decide +kernel) q_w1 q_w2 (by decide) q_hat115 hat_115 hgd_115 dX6_note_47 dX6_note_50 dX6_note_51 dX6_note_53 dX6_note_56 (Nat.le_of_ble_eq_true rfl) (Nat.le_of_ble_eq_true rfl) (Nat.le_of_ble_eq_true rfl) (Nat.le_of_ble_eq_true rfl) (Nat.le_of_ble_eq_true rfl) (Nat.le_of_ble_eq_true rfl) ?_
    refine ⟨rfl, ?_⟩
    simp [kno, w_5, w_12, w_19, w_31, c_44]
abbrev rm_X6_isMusic : Room := { frames := 7, cells := 1, slots := 6, locals := 103 }
theorem hd_X6_isMusic : yX6_isMusic.cls = RX6 ∧ yX6_isMusic.cls ≠ "java/lang/invoke/MethodHandle" ∧ yX6_isMusic.cls ≠ "java/lang/invoke/VarHandle" ∧ (parseMethodDescriptor yX6_isMusic.desc).map (fun d => d.parameters.length) = some 1 := by decide +kernel
set_option maxRecDepth 100000 in
set_option maxHeartbeats 4000000 in
theorem k_X6_isMusic {D : va_G} {dT : Nat → ClassId} {ad : Nat → Nat} (I : Nat → Nat → Int32) (c : Nat) (hc : I 2 3 = nI c) (h40 : c ≤ 40) (fa : Nat → Nat) (hfa : ∀ n, n < c → I 12 n = nI (fa n) ∧ fa n < 200) (r : Int32) : KTI yX6_isMusic wsX6_isMusic rm_X6_isMusic D dT ad I [.ref (ad 0), .int r] 1 6 (fun q9 J => kr1 I r = 0 ∧ I = J ∧ iscn I r.toNatClampNeg c fa = q9) (fun E => (E = xIO ∧ (kr1 I r) = 1)) := by
  intro l9 hl9
  refine ti_of hl9 (own := RX6) (cc := cX6_isMusic) (maxL := 2) (some .boolean) [(0, .ref (ad 0)), (1, .int r)] (by decide) rfl rfl rfl (Nat.le_of_ble_eq_true rfl) ?_
  intro X hX hE hN
  have hQ := FI.x hE
  have q_w1 : Cond.fieldLink RX6 18 "Perforatum" "music" "LPerforatum$Music;" ∈ wsX6_isMusic := List.mem_of_getElem? (i := 1) rfl
  have q_inX6 : ∀ w ∈ wsX60, w ∈ wsX6_isMusic := by decide +kernel
  refine g_aload_n hX 0 rfl dX6_isMusic_0 rfl ?_
  refine cg_X6_music hX (by decide) rfl q_inX6 q_w1 rfl dX6_isMusic_1 ?_
  refine g_aload_n hX 0 rfl dX6_isMusic_4 rfl ?_
  refine g_iload_n hX 1 rfl dX6_isMusic_5 rfl ?_
  refine ct_callQ_V hX hQ [.int r] 10 (by decide) rfl (by decide) rfl (k_X6_demandPaper I r) gX6_isMusic_X6_demandPaper rfl rfl rfl hd_X6_demandPaper ⟨Nat.le_of_ble_eq_true rfl, Nat.le_of_ble_eq_true rfl⟩ ⟨Nat.le_of_ble_eq_true rfl, Nat.le_of_ble_eq_true rfl⟩ (Nat.le_of_ble_eq_true rfl) (Nat.le_of_ble_eq_true rfl) (fun E h9 => by obtain ⟨rfl, h9⟩ := h9; exact ⟨rfl, by simp [kr1, h9]⟩) rfl (Nat.le_of_ble_eq_true rfl) dX6_isMusic_6 (fun r_6 J_6 h_6 => ?_)
  obtain ⟨rfl, rfl, hi_6, rp_6⟩ := h_6
  refine g_stk (st2 := .ref (ad (4 + r.toNatClampNeg)) :: [.ref (ad 2)]) rfl ?_
  refine c_callI_V hX [.ref (ad (4 + r.toNatClampNeg))] 4 (by decide) rfl (by decide) rfl (k_X0_isScannedFrom I r.toNatClampNeg hi_6 c hc h40 fa hfa) gX6_isMusic_X0_isScannedFrom rfl rfl rfl hd_X0_isScannedFrom ⟨Nat.le_of_ble_eq_true rfl, Nat.le_of_ble_eq_true rfl⟩ ⟨Nat.le_of_ble_eq_true rfl, Nat.le_of_ble_eq_true rfl⟩ rfl (Nat.le_of_ble_eq_true rfl) dX6_isMusic_9 (fun r_9 J_9 h_9 => ?_)
  obtain ⟨rfl, rfl⟩ := h_9
  refine t_zret hX (nz_iscn _ _ _ _) hE dX6_isMusic_12 (Nat.le_of_ble_eq_true rfl) (Nat.le_of_ble_eq_true rfl) ?_
  exact ⟨_, rfl, by simp [kr1, rp_6], rfl, rfl⟩
abbrev rm_X6_wipe : Room := { frames := 1, cells := 0, slots := 0, locals := 21 }
theorem hd_X6_wipe : yX6_wipe.cls = RX6 ∧ yX6_wipe.cls ≠ "java/lang/invoke/MethodHandle" ∧ yX6_wipe.cls ≠ "java/lang/invoke/VarHandle" ∧ (parseMethodDescriptor yX6_wipe.desc).map (fun d => d.parameters.length) = some 0 := by decide +kernel
set_option maxRecDepth 100000 in
set_option maxHeartbeats 4000000 in
theorem k_X6_wipe {D : va_G} {dT : Nat → ClassId} {ad : Nat → Nat} (I : Nat → Nat → Int32) : KI yX6_wipe wsX6_wipe rm_X6_wipe D dT ad I [.ref (ad 0)] (fun q J => up2 (up2 I 0 7 (-1)) 2 3 0 = J ∧ I 2 3 = q) := by
  intro l9
  refine ci_of (own := RX6) (cc := cX6_wipe) (maxL := 1) (some .int) [(0, .ref (ad 0))] (by decide) rfl rfl rfl (Nat.le_of_ble_eq_true rfl) ?_
  intro X hX hE hN
  have q_w1 : Cond.fieldLink RX6 48 "Perforatum" "arrangedRoll" "I" ∈ wsX6_wipe := List.mem_of_getElem? (i := 1) rfl
  have q_inX6 : ∀ w ∈ wsX60, w ∈ wsX6_wipe := by decide +kernel
  have q_w2 : Cond.fieldLink RX6 18 "Perforatum" "music" "LPerforatum$Music;" ∈ wsX6_wipe := List.mem_of_getElem? (i := 2) rfl
  refine g_aload_n hX 0 rfl dX6_wipe_0 rfl ?_
  refine g_iconst hX (-1) dX6_wipe_1 rfl ?_
  refine cp_X6_arrangedRoll hX (by decide) rfl q_inX6 q_w1 dX6_wipe_2 ?_
  refine g_aload_n hX 0 rfl dX6_wipe_5 rfl ?_
  refine cg_X6_music hX (by decide) rfl q_inX6 q_w2 rfl dX6_wipe_6 ?_
  refine c_callI_V hX [] 4 (by decide) rfl (by decide) rfl (k_X0_forgetAll (up2 I 0 7 (-1)) ) gX6_wipe_X0_forgetAll rfl rfl rfl hd_X0_forgetAll ⟨Nat.le_of_ble_eq_true rfl, Nat.le_of_ble_eq_true rfl⟩ ⟨Nat.zero_le _, Nat.zero_le _⟩ rfl (Nat.le_of_ble_eq_true rfl) dX6_wipe_9 (fun r_9 J_9 h_9 => ?_)
  obtain ⟨rfl, rfl⟩ := h_9
  refine g_iret hX hE dX6_wipe_12 (by omega) (by omega) ?_
  exact ⟨_, rfl, rfl, by rw [up2_row (by decide)]⟩

