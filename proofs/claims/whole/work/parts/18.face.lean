abbrev rm_X6_hasPaper : Room := { frames := 0, cells := 0, slots := 0, locals := 0 }
theorem hd_X6_hasPaper : yX6_hasPaper.cls = RX6 ∧ yX6_hasPaper.cls ≠ "java/lang/invoke/MethodHandle" ∧ yX6_hasPaper.cls ≠ "java/lang/invoke/VarHandle" ∧ (parseMethodDescriptor yX6_hasPaper.desc).map (fun d => d.parameters.length) = some 1 := by decide +kernel
set_option maxRecDepth 100000 in
set_option maxHeartbeats 4000000 in
theorem k_X6_hasPaper {D : va_G} {dT : Nat → ClassId} {ad : Nat → Nat} (I : Nat → Nat → Int32) (r : Int32) : KI yX6_hasPaper wsX6_hasPaper rm_X6_hasPaper D dT ad I [.ref (ad 0), .int r] (fun q J => I = J ∧ rp I r = q) := by
  intro l9
  refine ci_of (own := RX6) (cc := cX6_hasPaper) (maxL := 2) (some .boolean) [(0, .ref (ad 0)), (1, .int r)] (by decide) rfl rfl rfl (Nat.le_of_ble_eq_true rfl) ?_
  intro X hX hE hN
  have q_w1 : Cond.fieldLink RX6 44 "Perforatum" "paperCount" "I" ∈ wsX6_hasPaper := List.mem_of_getElem? (i := 1) rfl
  have q_inX6 : ∀ w ∈ wsX60, w ∈ wsX6_hasPaper := by decide +kernel
  refine g_iload_n hX 1 rfl dX6_hasPaper_0 rfl ?_
  refine g_if_lt (tgt := 21) hX dX6_hasPaper_1 (by decide) (fun c_1 => ?_) (fun c_1 => ?_)
  · refine g_iconst hX (0) dX6_hasPaper_21 rfl ?_
    refine g_zret hX rfl hE dX6_hasPaper_22 (by omega) (by omega) ?_
    exact ⟨_, rfl, rfl, by simp only [rp, c_1, if_true, if_false]⟩
  · refine g_iload_n hX 1 rfl dX6_hasPaper_4 rfl ?_
    refine g_aload_n hX 0 rfl dX6_hasPaper_5 rfl ?_
    refine cg_X6_paperCount hX (by decide) rfl q_inX6 q_w1 dX6_hasPaper_6 ?_
    refine g_icmp_ge (tgt := 21) hX dX6_hasPaper_9 (by decide) (fun c_9 => ?_) (fun c_9 => ?_)
    · refine g_iconst hX (0) dX6_hasPaper_21 rfl ?_
      refine g_zret hX rfl hE dX6_hasPaper_22 (by omega) (by omega) ?_
      exact ⟨_, rfl, rfl, by simp only [rp, c_1, c_9, if_true, if_false]⟩
    · refine g_iload_n hX 1 rfl dX6_hasPaper_12 rfl ?_
      refine g_iconst hX (4) dX6_hasPaper_13 rfl ?_
      refine g_icmp_ge (tgt := 21) hX dX6_hasPaper_14 (by decide) (fun c_14 => ?_) (fun c_14 => ?_)
      · refine g_iconst hX (0) dX6_hasPaper_21 rfl ?_
        refine g_zret hX rfl hE dX6_hasPaper_22 (by omega) (by omega) ?_
        exact ⟨_, rfl, rfl, by simp only [rp, c_1, c_14, c_9, if_true, if_false]⟩
      · refine g_iconst hX (1) dX6_hasPaper_17 rfl ?_
        refine g_goto (tgt := 22) hX dX6_hasPaper_18 (by decide) ?_
        refine g_zret hX rfl hE dX6_hasPaper_22 (by omega) (by omega) ?_
        exact ⟨_, rfl, rfl, by simp only [rp, c_1, c_14, c_9, if_true, if_false]⟩
abbrev rm_X6_addRoll : Room := { frames := 0, cells := 0, slots := 0, locals := 0 }
theorem hd_X6_addRoll : yX6_addRoll.cls = RX6 ∧ yX6_addRoll.cls ≠ "java/lang/invoke/MethodHandle" ∧ yX6_addRoll.cls ≠ "java/lang/invoke/VarHandle" ∧ (parseMethodDescriptor yX6_addRoll.desc).map (fun d => d.parameters.length) = some 0 := by decide +kernel
set_option maxRecDepth 100000 in
set_option maxHeartbeats 4000000 in
theorem k_X6_addRoll {D : va_G} {dT : Nat → ClassId} {ad : Nat → Nat} (I : Nat → Nat → Int32) : KI yX6_addRoll wsX6_addRoll rm_X6_addRoll D dT ad I [.ref (ad 0)] (fun q J => up2 I 0 6 (I 0 6 + 1) = J ∧ I 0 6 + 1 - 1 = q) := by
  intro l9
  refine ci_of (own := RX6) (cc := cX6_addRoll) (maxL := 1) (some .int) [(0, .ref (ad 0))] (by decide) rfl rfl rfl (Nat.le_of_ble_eq_true rfl) ?_
  intro X hX hE hN
  have q_w1 : Cond.fieldLink RX6 44 "Perforatum" "paperCount" "I" ∈ wsX6_addRoll := List.mem_of_getElem? (i := 1) rfl
  have q_inX6 : ∀ w ∈ wsX60, w ∈ wsX6_addRoll := by decide +kernel
  refine g_aload_n hX 0 rfl dX6_addRoll_0 rfl ?_
  refine g_dup hX dX6_addRoll_1 rfl ?_
  refine cg_X6_paperCount hX (by decide) rfl q_inX6 q_w1 dX6_addRoll_2 ?_
  refine g_iconst hX (1) dX6_addRoll_5 rfl ?_
  refine g_iadd hX dX6_addRoll_6 ?_
  refine cp_X6_paperCount hX (by decide) rfl q_inX6 q_w1 dX6_addRoll_7 ?_
  refine g_aload_n hX 0 rfl dX6_addRoll_10 rfl ?_
  refine cg_X6_paperCount hX (by decide) rfl q_inX6 q_w1 dX6_addRoll_11 ?_
  refine g_eqi (y := (I 0 6) + 1) (up2_s) ?_
  refine g_iconst hX (1) dX6_addRoll_14 rfl ?_
  refine g_isub hX dX6_addRoll_15 ?_
  refine g_iret hX hE dX6_addRoll_16 (by omega) (by omega) ?_
  exact ⟨_, rfl, rfl, rfl⟩
abbrev rm_X6_forgetArrangementOf : Room := { frames := 0, cells := 0, slots := 0, locals := 0 }
theorem hd_X6_forgetArrangementOf : yX6_forgetArrangementOf.cls = RX6 ∧ yX6_forgetArrangementOf.cls ≠ "java/lang/invoke/MethodHandle" ∧ yX6_forgetArrangementOf.cls ≠ "java/lang/invoke/VarHandle" ∧ (parseMethodDescriptor yX6_forgetArrangementOf.desc).map (fun d => d.parameters.length) = some 1 := by decide +kernel
set_option maxRecDepth 100000 in
set_option maxHeartbeats 4000000 in
theorem k_X6_forgetArrangementOf {D : va_G} {dT : Nat → ClassId} {ad : Nat → Nat} (I : Nat → Nat → Int32) (r : Int32) : KV yX6_forgetArrangementOf wsX6_forgetArrangementOf rm_X6_forgetArrangementOf D dT ad I [.ref (ad 0), .int r] (fun J => fga I r = J) := by
  intro l9
  refine cv_of (own := RX6) (cc := cX6_forgetArrangementOf) (maxL := 2) [(0, .ref (ad 0)), (1, .int r)] (by decide) rfl rfl rfl (Nat.le_of_ble_eq_true rfl) ?_
  intro X hX hE hN
  have q_w1 : Cond.fieldLink RX6 48 "Perforatum" "arrangedRoll" "I" ∈ wsX6_forgetArrangementOf := List.mem_of_getElem? (i := 1) rfl
  have q_inX6 : ∀ w ∈ wsX60, w ∈ wsX6_forgetArrangementOf := by decide +kernel
  refine g_aload_n hX 0 rfl dX6_forgetArrangementOf_0 rfl ?_
  refine cg_X6_arrangedRoll hX (by decide) rfl q_inX6 q_w1 dX6_forgetArrangementOf_1 ?_
  refine g_iload_n hX 1 rfl dX6_forgetArrangementOf_4 rfl ?_
  refine g_icmp_ne (tgt := 13) hX dX6_forgetArrangementOf_5 (by decide) (fun c_5 => ?_) (fun c_5 => ?_)
  · refine g_vret hX hE dX6_forgetArrangementOf_13 (by omega) (by omega) ?_
    exact ⟨_, rfl, by rw [fga, if_neg c_5]⟩
  · refine g_aload_n hX 0 rfl dX6_forgetArrangementOf_8 rfl ?_
    refine g_iconst hX (-1) dX6_forgetArrangementOf_9 rfl ?_
    refine cp_X6_arrangedRoll hX (by decide) rfl q_inX6 q_w1 dX6_forgetArrangementOf_10 ?_
    refine g_vret hX hE dX6_forgetArrangementOf_13 (by omega) (by omega) ?_
    exact ⟨_, rfl, by rw [fga, if_pos c_5]⟩
abbrev rm_X6_isArrangementKept : Room := { frames := 4, cells := 0, slots := 0, locals := 89 }
theorem hd_X6_isArrangementKept : yX6_isArrangementKept.cls = RX6 ∧ yX6_isArrangementKept.cls ≠ "java/lang/invoke/MethodHandle" ∧ yX6_isArrangementKept.cls ≠ "java/lang/invoke/VarHandle" ∧ (parseMethodDescriptor yX6_isArrangementKept.desc).map (fun d => d.parameters.length) = some 0 := by decide +kernel
set_option maxRecDepth 100000 in
set_option maxHeartbeats 4000000 in
theorem k_X6_isArrangementKept {D : va_G} {dT : Nat → ClassId} {ad : Nat → Nat} (I : Nat → Nat → Int32) (c : Nat) (hc : I 2 3 = nI c) (h40 : c ≤ 40) (fa : Nat → Nat) (hfa : ∀ n, n < c → I 12 n = nI (fa n) ∧ fa n < 200) : KI yX6_isArrangementKept wsX6_isArrangementKept rm_X6_isArrangementKept D dT ad I [.ref (ad 0)] (fun q J => I = J ∧ ark I c fa = q) := by
  intro l9
  refine ci_of (own := RX6) (cc := cX6_isArrangementKept) (maxL := 1) (some .boolean) [(0, .ref (ad 0))] (by decide) rfl rfl rfl (Nat.le_of_ble_eq_true rfl) ?_
  intro X hX hE hN
  have q_w1 : Cond.fieldLink RX6 48 "Perforatum" "arrangedRoll" "I" ∈ wsX6_isArrangementKept := List.mem_of_getElem? (i := 1) rfl
  have q_inX6 : ∀ w ∈ wsX60, w ∈ wsX6_isArrangementKept := by decide +kernel
  have q_w2 : Cond.fieldLink RX6 18 "Perforatum" "music" "LPerforatum$Music;" ∈ wsX6_isArrangementKept := List.mem_of_getElem? (i := 2) rfl
  have q_w3 : Cond.fieldLink RX6 11 "Perforatum" "papers" "[LPerforatum$Paper;" ∈ wsX6_isArrangementKept := List.mem_of_getElem? (i := 3) rfl
  refine g_aload_n hX 0 rfl dX6_isArrangementKept_0 rfl ?_
  refine g_aload_n hX 0 rfl dX6_isArrangementKept_1 rfl ?_
  refine cg_X6_arrangedRoll hX (by decide) rfl q_inX6 q_w1 dX6_isArrangementKept_2 ?_
  refine c_callI_V hX [.int (I 0 7)] 10 (by decide) rfl (by decide) rfl (k_X6_hasPaper I (I 0 7)) gX6_isArrangementKept_X6_hasPaper rfl rfl rfl hd_X6_hasPaper ⟨Nat.le_of_ble_eq_true rfl, Nat.le_of_ble_eq_true rfl⟩ ⟨Nat.zero_le _, Nat.zero_le _⟩ rfl (Nat.le_of_ble_eq_true rfl) dX6_isArrangementKept_5 (fun r_5 J_5 h_5 => ?_)
  obtain ⟨rfl, rfl⟩ := h_5
  refine g_if_eq (tgt := 30) hX dX6_isArrangementKept_8 (by decide) (fun c_8 => ?_) (fun c_8 => ?_)
  · refine g_iconst hX (1) dX6_isArrangementKept_30 rfl ?_
    refine g_goto (tgt := 35) hX dX6_isArrangementKept_31 (by decide) ?_
    refine g_zret hX rfl hE dX6_isArrangementKept_35 (by omega) (by omega) ?_
    exact ⟨_, rfl, rfl, by simp only [ark, c_8, if_true, if_false]⟩
  · refine g_aload_n hX 0 rfl dX6_isArrangementKept_11 rfl ?_
    refine cg_X6_music hX (by decide) rfl q_inX6 q_w2 rfl dX6_isArrangementKept_12 ?_
    refine g_aload_n hX 0 rfl dX6_isArrangementKept_15 rfl ?_
    refine cg_X6_papers hX (by decide) rfl q_inX6 q_w3 rfl dX6_isArrangementKept_16 ?_
    refine g_aload_n hX 0 rfl dX6_isArrangementKept_19 rfl ?_
    refine cg_X6_arrangedRoll hX (by decide) rfl q_inX6 q_w1 dX6_isArrangementKept_20 ?_
    refine g_eqi (y := nI (I 0 7).toNatClampNeg) (rp_ix c_8).1 ?_
    refine c_aaldp hX ((I 0 7).toNatClampNeg) (rp_ix c_8).2 dX6_isArrangementKept_23 ?_
    refine c_callI_V hX [.ref (ad (4 + (I 0 7).toNatClampNeg))] 4 (by decide) rfl (by decide) rfl (k_X0_isScannedFrom I (I 0 7).toNatClampNeg (rp_ix c_8).2 c hc h40 fa hfa) gX6_isArrangementKept_X0_isScannedFrom rfl rfl rfl hd_X0_isScannedFrom ⟨Nat.le_of_ble_eq_true rfl, Nat.le_of_ble_eq_true rfl⟩ ⟨Nat.zero_le _, Nat.zero_le _⟩ rfl (Nat.le_of_ble_eq_true rfl) dX6_isArrangementKept_24 (fun r_24 J_24 h_24 => ?_)
    obtain ⟨rfl, rfl⟩ := h_24
    refine g_if_eq (tgt := 34) hX dX6_isArrangementKept_27 (by decide) (fun c_27 => ?_) (fun c_27 => ?_)
    · refine g_iconst hX (0) dX6_isArrangementKept_34 rfl ?_
      refine g_zret hX rfl hE dX6_isArrangementKept_35 (by omega) (by omega) ?_
      exact ⟨_, rfl, rfl, by simp only [ark, c_27, c_8, if_true, if_false]⟩
    · refine g_iconst hX (1) dX6_isArrangementKept_30 rfl ?_
      refine g_goto (tgt := 35) hX dX6_isArrangementKept_31 (by decide) ?_
      refine g_zret hX rfl hE dX6_isArrangementKept_35 (by omega) (by omega) ?_
      exact ⟨_, rfl, rfl, by simp only [ark, c_27, c_8, if_true, if_false]⟩
abbrev rm_X6_isLentToAnother : Room := { frames := 0, cells := 0, slots := 0, locals := 0 }
theorem hd_X6_isLentToAnother : yX6_isLentToAnother.cls = RX6 ∧ yX6_isLentToAnother.cls ≠ "java/lang/invoke/MethodHandle" ∧ yX6_isLentToAnother.cls ≠ "java/lang/invoke/VarHandle" ∧ (parseMethodDescriptor yX6_isLentToAnother.desc).map (fun d => d.parameters.length) = some 1 := by decide +kernel
set_option maxRecDepth 100000 in
set_option maxHeartbeats 4000000 in
theorem k_X6_isLentToAnother {D : va_G} {dT : Nat → ClassId} {ad : Nat → Nat} (I : Nat → Nat → Int32) (n : Int32) : KI yX6_isLentToAnother wsX6_isLentToAnother rm_X6_isLentToAnother D dT ad I [.ref (ad 0), .int n] (fun q J => I = J ∧ lent I n 12 0 = q) := by
  intro l9
  refine ci_of (own := RX6) (cc := cX6_isLentToAnother) (maxL := 3) (some .boolean) [(0, .ref (ad 0)), (1, .int n)] (by decide) rfl rfl rfl (Nat.le_of_ble_eq_true rfl) ?_
  intro X hX hE hN
  have q_w1 : Cond.fieldLink RX6 38 "Perforatum" "valves" "[LPerforatum$Valve;" ∈ wsX6_isLentToAnother := List.mem_of_getElem? (i := 1) rfl
  have q_inX6 : ∀ w ∈ wsX60, w ∈ wsX6_isLentToAnother := by decide +kernel
  have q_w2 : Cond.fieldLink RX6 175 "Perforatum$Valve" "lender" "I" ∈ wsX6_isLentToAnother := List.mem_of_getElem? (i := 2) rfl
  have q_inX5 : ∀ w ∈ wsX50, w ∈ wsX6_isLentToAnother := by decide +kernel
  refine g_iconst hX (0) dX6_isLentToAnother_0 rfl ?_
  refine g_istore_n hX [(2, .int 0), (0, .ref (ad 0)), (1, .int n)] rfl dX6_isLentToAnother_1 rfl (by decide) ?_
  have lp_2 : ∀ (n9 : Nat) (k : Nat), 12 - k < n9 → k ≤ 12 → lent I n 12 0 = lent I n (12 - k) k → CG X D dT ad I [(2, .int (nI k)), (0, .ref (ad 0)), (1, .int n)] 0 0 2 [] := by
    intro n9
    induction n9 with
    | zero => intro k h9; exact absurd h9 (Nat.not_lt_zero _)
    | succ n9 ih9 =>
      intro k h9 hk hs
      have ih_2 := ih9
      refine g_iload_n hX 0 rfl dX6_isLentToAnother_2 rfl ?_
      refine g_bipush hX (12) dX6_isLentToAnother_3 rfl ?_
      refine g_icmp_ge (tgt := 34) hX dX6_isLentToAnother_5 (by decide) (fun c_5 => ?_) (fun c_5 => ?_)
      · have c_5 : 12 ≤ k := (nI_leI (a := 12) (b := k) (by omega) (by omega)).mp c_5
        refine g_iconst hX (0) dX6_isLentToAnother_34 rfl ?_
        refine g_zret hX rfl hE dX6_isLentToAnother_35 (by omega) (by omega) ?_
        exact ⟨_, rfl, rfl, by rw [hs, show 12 - k = 0 by omega]; rfl⟩
      · have c_5 : ¬ 12 ≤ k := fun h9 => c_5 ((nI_leI (a := 12) (b := k) (by omega) (by omega)).mpr h9)
        refine g_iload_n hX 0 rfl dX6_isLentToAnother_8 rfl ?_
        refine g_iload_n hX 2 rfl dX6_isLentToAnother_9 rfl ?_
        refine g_icmp_eq (tgt := 28) hX dX6_isLentToAnother_10 (by decide) (fun c_10 => ?_) (fun c_10 => ?_)
        · refine g_iinc hX (nI (k + 1)) [(2, .int (nI (k + 1))), (0, .ref (ad 0)), (1, .int n)] (k := 0) rfl (g_inc k) rfl dX6_isLentToAnother_28 (by decide) ?_
          refine g_goto (tgt := 2) hX dX6_isLentToAnother_31 (by decide) ?_
          refine g_lv [0, 1, 2] rfl ?_
          exact ih_2 (k + 1) (by omega) (by omega) (hs.trans (by rw [show 12 - k = (12 - (k + 1)) + 1 by omega, lent, if_pos c_10]))
        · refine g_aload_n hX 1 rfl dX6_isLentToAnother_13 rfl ?_
          refine cg_X6_valves hX (by decide) rfl q_inX6 q_w1 rfl dX6_isLentToAnother_14 ?_
          refine g_iload_n hX 0 rfl dX6_isLentToAnother_17 rfl ?_
          refine c_aaldv hX k (by omega) dX6_isLentToAnother_18 ?_
          refine cg_X5_lender hX (by omega) (cK_v (by omega)) q_inX5 q_w2 dX6_isLentToAnother_19 ?_
          refine g_iload_n hX 2 rfl dX6_isLentToAnother_22 rfl ?_
          refine g_icmp_ne (tgt := 28) hX dX6_isLentToAnother_23 (by decide) (fun c_23 => ?_) (fun c_23 => ?_)
          · refine g_iinc hX (nI (k + 1)) [(2, .int (nI (k + 1))), (0, .ref (ad 0)), (1, .int n)] (k := 0) rfl (g_inc k) rfl dX6_isLentToAnother_28 (by decide) ?_
            refine g_goto (tgt := 2) hX dX6_isLentToAnother_31 (by decide) ?_
            refine g_lv [0, 1, 2] rfl ?_
            exact ih_2 (k + 1) (by omega) (by omega) (hs.trans (by rw [show 12 - k = (12 - (k + 1)) + 1 by omega, lent, if_neg c_10, if_neg c_23]))
          · refine g_iconst hX (1) dX6_isLentToAnother_26 rfl ?_
            refine g_zret hX rfl hE dX6_isLentToAnother_27 (by omega) (by omega) ?_
            exact ⟨_, rfl, rfl, by rw [hs, show 12 - k = (12 - (k + 1)) + 1 by omega, lent, if_neg c_10, if_pos c_23]⟩
  refine g_lv [0, 1, 2] rfl ?_
  exact lp_2 _ 0 (Nat.lt_succ_self _) (Nat.zero_le _) rfl
abbrev rm_X6_measureRow : Room := { frames := 0, cells := 0, slots := 0, locals := 0 }
theorem hd_X6_measureRow : yX6_measureRow.cls = RX6 ∧ yX6_measureRow.cls ≠ "java/lang/invoke/MethodHandle" ∧ yX6_measureRow.cls ≠ "java/lang/invoke/VarHandle" ∧ (parseMethodDescriptor yX6_measureRow.desc).map (fun d => d.parameters.length) = some 1 := by decide +kernel
set_option maxRecDepth 100000 in
set_option maxHeartbeats 4000000 in
theorem k_X6_measureRow {D : va_G} {dT : Nat → ClassId} {ad : Nat → Nat} (I : Nat → Nat → Int32) (k : Nat) : KI yX6_measureRow wsX6_measureRow rm_X6_measureRow D dT ad I [.ref (ad 0), .int (nI k)] (fun q J => I = J ∧ mrw I k = q) := by
  intro l9
  refine ci_of (own := RX6) (cc := cX6_measureRow) (maxL := 3) (some .int) [(0, .ref (ad 0)), (1, .int (nI k))] (by decide) rfl rfl rfl (Nat.le_of_ble_eq_true rfl) ?_
  intro X hX hE hN
  have q_w1 : Cond.fieldLink RX6 51 "Perforatum" "firstSpeed" "I" ∈ wsX6_measureRow := List.mem_of_getElem? (i := 1) rfl
  have q_inX6 : ∀ w ∈ wsX60, w ∈ wsX6_measureRow := by decide +kernel
  have q_w2 : Cond.fieldLink RX6 54 "Perforatum" "growth" "I" ∈ wsX6_measureRow := List.mem_of_getElem? (i := 2) rfl
  have q_w3 : Cond.constant RX6 298 (1000000) ∈ wsX6_measureRow := List.mem_of_getElem? (i := 3) rfl
  refine g_aload_n hX 0 rfl dX6_measureRow_0 rfl ?_
  refine cg_X6_firstSpeed hX (by decide) rfl q_inX6 q_w1 dX6_measureRow_1 ?_
  refine g_iload_n hX 1 rfl dX6_measureRow_4 rfl ?_
  refine g_aload_n hX 0 rfl dX6_measureRow_5 rfl ?_
  refine cg_X6_growth hX (by decide) rfl q_inX6 q_w2 dX6_measureRow_6 ?_
  refine g_imul hX dX6_measureRow_9 ?_
  refine g_bipush hX (10) dX6_measureRow_10 rfl ?_
  refine g_idiv hX dX6_measureRow_12 (by decide) ?_
  refine g_iadd hX dX6_measureRow_13 ?_
  refine g_istore_n hX [(2, .int ((I 0 8) + (((nI k) * (I 0 9)) / 10))), (0, .ref (ad 0)), (1, .int (nI k))] rfl dX6_measureRow_14 rfl (by decide) ?_
  refine g_iload_n hX 0 rfl dX6_measureRow_15 rfl ?_
  refine g_if_le (tgt := 27) hX dX6_measureRow_16 (by decide) (fun c_16 => ?_) (fun c_16 => ?_)
  · refine g_iconst hX (0) dX6_measureRow_27 rfl ?_
    refine g_iret hX hE dX6_measureRow_28 (by omega) (by omega) ?_
    exact ⟨_, rfl, rfl, by rw [mrw, if_pos c_16]⟩
  · refine g_ldcw hX (1000000) q_w3 dX6_measureRow_19 ?_
    refine g_iload_n hX 0 rfl dX6_measureRow_22 rfl ?_
    refine g_idiv hX dX6_measureRow_23 (fun h => c_16 (by rw [h]; decide)) ?_
    refine g_goto (tgt := 28) hX dX6_measureRow_24 (by decide) ?_
    refine g_iret hX hE dX6_measureRow_28 (by omega) (by omega) ?_
    exact ⟨_, rfl, rfl, by rw [mrw, if_neg c_16]⟩
abbrev rm_X6_demandWithin : Room := { frames := 6, cells := 1, slots := 6, locals := 82 }
theorem hd_X6_demandWithin : yX6_demandWithin.cls = RX6 ∧ yX6_demandWithin.cls ≠ "java/lang/invoke/MethodHandle" ∧ yX6_demandWithin.cls ≠ "java/lang/invoke/VarHandle" ∧ (parseMethodDescriptor yX6_demandWithin.desc).map (fun d => d.parameters.length) = some 3 := by decide +kernel
set_option maxRecDepth 100000 in
set_option maxHeartbeats 4000000 in
theorem k_X6_demandWithin {D : va_G} {dT : Nat → ClassId} {ad : Nat → Nat} (I : Nat → Nat → Int32) (n a b : Int32) : KTV yX6_demandWithin wsX6_demandWithin rm_X6_demandWithin D dT ad I [.int n, .int a, .int b] 1 6 (fun J => I = J ∧ wi n a b = 1) (fun E => E = xIA ∧ wi n a b = 0) := by
  intro l9 hl9
  refine tv_of hl9 (own := RX6) (cc := cX6_demandWithin) (maxL := 3) [(0, .int n), (1, .int a), (2, .int b)] (by decide) rfl rfl rfl (Nat.le_of_ble_eq_true rfl) ?_
  intro X hX hE hN
  have hQ := FV.x hE
  have q_w1 : Cond.classLink RX6 142 "java/lang/IllegalArgumentException" ∈ wsX6_demandWithin := List.mem_of_getElem? (i := 1) rfl
  have q_w2 : Cond.initialized "java/lang/IllegalArgumentException" ∈ wsX6_demandWithin := List.mem_of_getElem? (i := 2) rfl
  have q_hat146 : ∀ w ∈ (vx_atS RX6 146 "java/lang/IllegalArgumentException" ["java/lang/RuntimeException", "java/lang/Exception"]).filter goodWord, w ∈ wsX6_demandWithin := by decide +kernel
  refine g_iload_n hX 0 rfl dX6_demandWithin_0 rfl ?_
  refine g_iload_n hX 1 rfl dX6_demandWithin_1 rfl ?_
  refine g_icmp_lt (tgt := 10) hX dX6_demandWithin_2 (by decide) (fun c_2 => ?_) (fun c_2 => ?_)
  · refine t_throwSW hX hQ (text := "a number is out of range") "java/lang/IllegalArgumentException" rfl (by decide +kernel) q_w1 q_w2 (by decide) q_hat146 hat_146 hgd_146 dX6_demandWithin_10 dX6_demandWithin_13 dX6_demandWithin_14 dX6_demandWithin_17 dX6_demandWithin_20 (Nat.le_of_ble_eq_true rfl) (Nat.le_of_ble_eq_true rfl) (Nat.le_of_ble_eq_true rfl) (Nat.le_of_ble_eq_true rfl) (Nat.le_of_ble_eq_true rfl) (Nat.le_of_ble_eq_true rfl) ?_
    refine ⟨rfl, ?_⟩
    exact ⟨rfl, by rw [wi, if_pos c_2]⟩
  · refine g_iload_n hX 0 rfl dX6_demandWithin_5 rfl ?_
    refine g_iload_n hX 2 rfl dX6_demandWithin_6 rfl ?_
    refine g_icmp_le (tgt := 21) hX dX6_demandWithin_7 (by decide) (fun c_7 => ?_) (fun c_7 => ?_)
    · refine t_vret hX hE dX6_demandWithin_21 (Nat.le_of_ble_eq_true rfl) (Nat.le_of_ble_eq_true rfl) ?_
      exact ⟨_, rfl, rfl, by rw [wi, if_neg c_2, if_pos c_7]⟩
    · refine t_throwSW hX hQ (text := "a number is out of range") "java/lang/IllegalArgumentException" rfl (by decide +kernel) q_w1 q_w2 (by decide) q_hat146 hat_146 hgd_146 dX6_demandWithin_10 dX6_demandWithin_13 dX6_demandWithin_14 dX6_demandWithin_17 dX6_demandWithin_20 (Nat.le_of_ble_eq_true rfl) (Nat.le_of_ble_eq_true rfl) (Nat.le_of_ble_eq_true rfl) (Nat.le_of_ble_eq_true rfl) (Nat.le_of_ble_eq_true rfl) (Nat.le_of_ble_eq_true rfl) ?_
      refine ⟨rfl, ?_⟩
      exact ⟨rfl, by rw [wi, if_neg c_2, if_neg c_7]⟩
abbrev rm_X6_demandPaper : Room := { frames := 6, cells := 1, slots := 6, locals := 82 }
theorem hd_X6_demandPaper : yX6_demandPaper.cls = RX6 ∧ yX6_demandPaper.cls ≠ "java/lang/invoke/MethodHandle" ∧ yX6_demandPaper.cls ≠ "java/lang/invoke/VarHandle" ∧ (parseMethodDescriptor yX6_demandPaper.desc).map (fun d => d.parameters.length) = some 1 := by decide +kernel
set_option maxRecDepth 100000 in
set_option maxHeartbeats 4000000 in
theorem k_X6_demandPaper {D : va_G} {dT : Nat → ClassId} {ad : Nat → Nat} (I : Nat → Nat → Int32) (r : Int32) : KTQ yX6_demandPaper wsX6_demandPaper rm_X6_demandPaper D dT ad I [.ref (ad 0), .int r] 1 6 (fun q J => I = J ∧ q = some (4 + r.toNatClampNeg) ∧ r.toNatClampNeg < 4 ∧ rp I r = 1) (fun E => E = xIO ∧ rp I r = 0) := by
  intro l9 hl9
  refine tq_of hl9 (own := RX6) (cc := cX6_demandPaper) (maxL := 2) (some (.object "Perforatum$Paper")) [(0, .ref (ad 0)), (1, .int r)] (by decide) rfl rfl rfl (Nat.le_of_ble_eq_true rfl) ?_
  intro X hX hE hN
  have hQ := FQ.x hE
  have q_w3 : Cond.fieldLink RX6 11 "Perforatum" "papers" "[LPerforatum$Paper;" ∈ wsX6_demandPaper := List.mem_of_getElem? (i := 3) rfl
  have q_inX6 : ∀ w ∈ wsX60, w ∈ wsX6_demandPaper := by decide +kernel
  have q_w1 : Cond.classLink RX6 289 "java/lang/IndexOutOfBoundsException" ∈ wsX6_demandPaper := List.mem_of_getElem? (i := 1) rfl
  have q_w2 : Cond.initialized "java/lang/IndexOutOfBoundsException" ∈ wsX6_demandPaper := List.mem_of_getElem? (i := 2) rfl
  have q_hat293 : ∀ w ∈ (vx_atS RX6 293 "java/lang/IndexOutOfBoundsException" ["java/lang/RuntimeException", "java/lang/Exception"]).filter goodWord, w ∈ wsX6_demandPaper := by decide +kernel
  refine g_aload_n hX 0 rfl dX6_demandPaper_0 rfl ?_
  refine g_iload_n hX 1 rfl dX6_demandPaper_1 rfl ?_
  refine c_callI_V hX [.int r] 10 (by decide) rfl (by decide) rfl (k_X6_hasPaper I r) gX6_demandPaper_X6_hasPaper rfl rfl rfl hd_X6_hasPaper ⟨Nat.le_of_ble_eq_true rfl, Nat.le_of_ble_eq_true rfl⟩ ⟨Nat.zero_le _, Nat.zero_le _⟩ rfl (Nat.le_of_ble_eq_true rfl) dX6_demandPaper_2 (fun r_2 J_2 h_2 => ?_)
  obtain ⟨rfl, rfl⟩ := h_2
  refine g_if_ne (tgt := 19) hX dX6_demandPaper_5 (by decide) (fun c_5 => ?_) (fun c_5 => ?_)
  · refine g_aload_n hX 0 rfl dX6_demandPaper_19 rfl ?_
    refine cg_X6_papers hX (by decide) rfl q_inX6 q_w3 rfl dX6_demandPaper_20 ?_
    refine g_iload_n hX 1 rfl dX6_demandPaper_23 rfl ?_
    refine g_eqi (y := nI r.toNatClampNeg) (rp_ix c_5).1 ?_
    refine c_aaldp hX r.toNatClampNeg (rp_ix c_5).2 dX6_demandPaper_24 ?_
    refine t_aret hX (some (4 + r.toNatClampNeg)) rfl hE (Or.inl ⟨_, rfl⟩) dX6_demandPaper_25 (Nat.le_of_ble_eq_true rfl) (Nat.le_of_ble_eq_true rfl) ?_
    exact ⟨_, rfl, rfl, rfl, (rp_ix c_5).2, rp_1 c_5⟩
  · refine t_throwSW hX hQ (text := "no such roll") "java/lang/IndexOutOfBoundsException" rfl (by decide +kernel) q_w1 q_w2 (by decide) q_hat293 hat_293 hgd_293 dX6_demandPaper_8 dX6_demandPaper_11 dX6_demandPaper_12 dX6_demandPaper_15 dX6_demandPaper_18 (Nat.le_of_ble_eq_true rfl) (Nat.le_of_ble_eq_true rfl) (Nat.le_of_ble_eq_true rfl) (Nat.le_of_ble_eq_true rfl) (Nat.le_of_ble_eq_true rfl) (Nat.le_of_ble_eq_true rfl) ?_
    refine ⟨rfl, ?_⟩
    exact ⟨rfl, c_5⟩
abbrev rm_X6_demandValve : Room := { frames := 6, cells := 1, slots := 6, locals := 82 }
theorem hd_X6_demandValve : yX6_demandValve.cls = RX6 ∧ yX6_demandValve.cls ≠ "java/lang/invoke/MethodHandle" ∧ yX6_demandValve.cls ≠ "java/lang/invoke/VarHandle" ∧ (parseMethodDescriptor yX6_demandValve.desc).map (fun d => d.parameters.length) = some 1 := by decide +kernel
set_option maxRecDepth 100000 in
set_option maxHeartbeats 4000000 in
theorem k_X6_demandValve {D : va_G} {dT : Nat → ClassId} {ad : Nat → Nat} (I : Nat → Nat → Int32) (r : Int32) : KTQ yX6_demandValve wsX6_demandValve rm_X6_demandValve D dT ad I [.ref (ad 0), .int r] 1 6 (fun q J => I = J ∧ q = some (24 + r.toNatClampNeg) ∧ r.toNatClampNeg < 12 ∧ vok r = 1) (fun E => E = xIO ∧ vok r = 0) := by
  intro l9 hl9
  refine tq_of hl9 (own := RX6) (cc := cX6_demandValve) (maxL := 2) (some (.object "Perforatum$Valve")) [(0, .ref (ad 0)), (1, .int r)] (by decide) rfl rfl rfl (Nat.le_of_ble_eq_true rfl) ?_
  intro X hX hE hN
  have hQ := FQ.x hE
  have q_w1 : Cond.classLink RX6 289 "java/lang/IndexOutOfBoundsException" ∈ wsX6_demandValve := List.mem_of_getElem? (i := 1) rfl
  have q_w2 : Cond.initialized "java/lang/IndexOutOfBoundsException" ∈ wsX6_demandValve := List.mem_of_getElem? (i := 2) rfl
  have q_hat293 : ∀ w ∈ (vx_atS RX6 293 "java/lang/IndexOutOfBoundsException" ["java/lang/RuntimeException", "java/lang/Exception"]).filter goodWord, w ∈ wsX6_demandValve := by decide +kernel
  have q_w3 : Cond.fieldLink RX6 38 "Perforatum" "valves" "[LPerforatum$Valve;" ∈ wsX6_demandValve := List.mem_of_getElem? (i := 3) rfl
  have q_inX6 : ∀ w ∈ wsX60, w ∈ wsX6_demandValve := by decide +kernel
  refine g_iload_n hX 1 rfl dX6_demandValve_0 rfl ?_
  refine g_if_lt (tgt := 13) hX dX6_demandValve_1 (by decide) (fun c_1 => ?_) (fun c_1 => ?_)
  · refine t_throwS hX hQ (text := "no such note") "java/lang/IndexOutOfBoundsException" rfl (by decide +kernel) q_w1 q_w2 (by decide) q_hat293 hat_293 hgd_293 dX6_demandValve_13 dX6_demandValve_16 dX6_demandValve_17 dX6_demandValve_19 dX6_demandValve_22 (Nat.le_of_ble_eq_true rfl) (Nat.le_of_ble_eq_true rfl) (Nat.le_of_ble_eq_true rfl) (Nat.le_of_ble_eq_true rfl) (Nat.le_of_ble_eq_true rfl) (Nat.le_of_ble_eq_true rfl) ?_
    refine ⟨rfl, ?_⟩
    exact ⟨rfl, by rw [vok, if_pos c_1]⟩
  · refine g_iload_n hX 1 rfl dX6_demandValve_4 rfl ?_
    refine g_aload_n hX 0 rfl dX6_demandValve_5 rfl ?_
    refine cg_X6_valves hX (by decide) rfl q_inX6 q_w3 rfl dX6_demandValve_6 ?_
    refine c_alenv hX dX6_demandValve_9 ?_
    refine g_icmp_lt (tgt := 23) hX dX6_demandValve_10 (by decide) (fun c_10 => ?_) (fun c_10 => ?_)
    · refine g_aload_n hX 0 rfl dX6_demandValve_23 rfl ?_
      refine cg_X6_valves hX (by decide) rfl q_inX6 q_w3 rfl dX6_demandValve_24 ?_
      refine g_iload_n hX 1 rfl dX6_demandValve_27 rfl ?_
      refine g_eqi (y := nI r.toNatClampNeg) (vok_ix c_1 c_10).1 ?_
      refine c_aaldv hX r.toNatClampNeg (vok_ix c_1 c_10).2 dX6_demandValve_28 ?_
      refine t_aret hX (some (24 + r.toNatClampNeg)) rfl hE (Or.inl ⟨_, rfl⟩) dX6_demandValve_29 (Nat.le_of_ble_eq_true rfl) (Nat.le_of_ble_eq_true rfl) ?_
      exact ⟨_, rfl, rfl, rfl, (vok_ix c_1 c_10).2, by rw [vok, if_neg c_1, if_pos c_10]⟩
    · refine t_throwS hX hQ (text := "no such note") "java/lang/IndexOutOfBoundsException" rfl (by decide +kernel) q_w1 q_w2 (by decide) q_hat293 hat_293 hgd_293 dX6_demandValve_13 dX6_demandValve_16 dX6_demandValve_17 dX6_demandValve_19 dX6_demandValve_22 (Nat.le_of_ble_eq_true rfl) (Nat.le_of_ble_eq_true rfl) (Nat.le_of_ble_eq_true rfl) (Nat.le_of_ble_eq_true rfl) (Nat.le_of_ble_eq_true rfl) (Nat.le_of_ble_eq_true rfl) ?_
      refine ⟨rfl, ?_⟩
      exact ⟨rfl, by rw [vok, if_neg c_1, if_neg c_10]⟩
abbrev rm_X6_demandPlaying : Room := { frames := 6, cells := 1, slots := 6, locals := 82 }
theorem hd_X6_demandPlaying : yX6_demandPlaying.cls = RX6 ∧ yX6_demandPlaying.cls ≠ "java/lang/invoke/MethodHandle" ∧ yX6_demandPlaying.cls ≠ "java/lang/invoke/VarHandle" ∧ (parseMethodDescriptor yX6_demandPlaying.desc).map (fun d => d.parameters.length) = some 0 := by decide +kernel
set_option maxRecDepth 100000 in
set_option maxHeartbeats 4000000 in
theorem k_X6_demandPlaying {D : va_G} {dT : Nat → ClassId} {ad : Nat → Nat} (I : Nat → Nat → Int32) : KTV yX6_demandPlaying wsX6_demandPlaying rm_X6_demandPlaying D dT ad I [.ref (ad 0)] 1 6 (fun J => I = J ∧ ¬ isB I = 0) (fun E => E = xIS ∧ isB I = 0) := by
  intro l9 hl9
  refine tv_of hl9 (own := RX6) (cc := cX6_demandPlaying) (maxL := 1) [(0, .ref (ad 0))] (by decide) rfl rfl rfl (Nat.le_of_ble_eq_true rfl) ?_
  intro X hX hE hN
  have hQ := FV.x hE
  have q_w3 : Cond.fieldLink RX6 25 "Perforatum" "player" "LPerforatum$Player;" ∈ wsX6_demandPlaying := List.mem_of_getElem? (i := 3) rfl
  have q_inX6 : ∀ w ∈ wsX60, w ∈ wsX6_demandPlaying := by decide +kernel
  have q_w1 : Cond.classLink RX6 120 "java/lang/IllegalStateException" ∈ wsX6_demandPlaying := List.mem_of_getElem? (i := 1) rfl
  have q_w2 : Cond.initialized "java/lang/IllegalStateException" ∈ wsX6_demandPlaying := List.mem_of_getElem? (i := 2) rfl
  have q_hat124 : ∀ w ∈ (vx_atS RX6 124 "java/lang/IllegalStateException" ["java/lang/RuntimeException", "java/lang/Exception"]).filter goodWord, w ∈ wsX6_demandPlaying := by decide +kernel
  refine g_aload_n hX 0 rfl dX6_demandPlaying_0 rfl ?_
  refine cg_X6_player hX (by decide) rfl q_inX6 q_w3 rfl dX6_demandPlaying_1 ?_
  refine c_callI_V hX [] 6 (by decide) rfl (by decide) rfl (k_X2_isBusy I ) gX6_demandPlaying_X2_isBusy rfl rfl rfl hd_X2_isBusy ⟨Nat.le_of_ble_eq_true rfl, Nat.le_of_ble_eq_true rfl⟩ ⟨Nat.zero_le _, Nat.zero_le _⟩ rfl (Nat.le_of_ble_eq_true rfl) dX6_demandPlaying_4 (fun r_4 J_4 h_4 => ?_)
  obtain ⟨rfl, rfl⟩ := h_4
  refine g_if_ne (tgt := 21) hX dX6_demandPlaying_7 (by decide) (fun c_7 => ?_) (fun c_7 => ?_)
  · refine t_vret hX hE dX6_demandPlaying_21 (Nat.le_of_ble_eq_true rfl) (Nat.le_of_ble_eq_true rfl) ?_
    exact ⟨_, rfl, rfl, c_7⟩
  · refine t_throwSW hX hQ (text := "no roll is played") "java/lang/IllegalStateException" rfl (by decide +kernel) q_w1 q_w2 (by decide) q_hat124 hat_124 hgd_124 dX6_demandPlaying_10 dX6_demandPlaying_13 dX6_demandPlaying_14 dX6_demandPlaying_17 dX6_demandPlaying_20 (Nat.le_of_ble_eq_true rfl) (Nat.le_of_ble_eq_true rfl) (Nat.le_of_ble_eq_true rfl) (Nat.le_of_ble_eq_true rfl) (Nat.le_of_ble_eq_true rfl) (Nat.le_of_ble_eq_true rfl) ?_
    refine ⟨rfl, ?_⟩
    exact ⟨rfl, c_7⟩
abbrev rm_X6_demandRoomForRoll : Room := { frames := 6, cells := 1, slots := 6, locals := 82 }
theorem hd_X6_demandRoomForRoll : yX6_demandRoomForRoll.cls = RX6 ∧ yX6_demandRoomForRoll.cls ≠ "java/lang/invoke/MethodHandle" ∧ yX6_demandRoomForRoll.cls ≠ "java/lang/invoke/VarHandle" ∧ (parseMethodDescriptor yX6_demandRoomForRoll.desc).map (fun d => d.parameters.length) = some 0 := by decide +kernel
set_option maxRecDepth 100000 in
set_option maxHeartbeats 4000000 in
theorem k_X6_demandRoomForRoll {D : va_G} {dT : Nat → ClassId} {ad : Nat → Nat} (I : Nat → Nat → Int32) : KTV yX6_demandRoomForRoll wsX6_demandRoomForRoll rm_X6_demandRoomForRoll D dT ad I [.ref (ad 0)] 1 6 (fun J => I = J ∧ I 0 6 < 4) (fun E => E = xIS ∧ ¬ I 0 6 < 4) := by
  intro l9 hl9
  refine tv_of hl9 (own := RX6) (cc := cX6_demandRoomForRoll) (maxL := 1) [(0, .ref (ad 0))] (by decide) rfl rfl rfl (Nat.le_of_ble_eq_true rfl) ?_
  intro X hX hE hN
  have hQ := FV.x hE
  have q_w3 : Cond.fieldLink RX6 44 "Perforatum" "paperCount" "I" ∈ wsX6_demandRoomForRoll := List.mem_of_getElem? (i := 3) rfl
  have q_inX6 : ∀ w ∈ wsX60, w ∈ wsX6_demandRoomForRoll := by decide +kernel
  have q_w1 : Cond.classLink RX6 120 "java/lang/IllegalStateException" ∈ wsX6_demandRoomForRoll := List.mem_of_getElem? (i := 1) rfl
  have q_w2 : Cond.initialized "java/lang/IllegalStateException" ∈ wsX6_demandRoomForRoll := List.mem_of_getElem? (i := 2) rfl
  have q_hat124 : ∀ w ∈ (vx_atS RX6 124 "java/lang/IllegalStateException" ["java/lang/RuntimeException", "java/lang/Exception"]).filter goodWord, w ∈ wsX6_demandRoomForRoll := by decide +kernel
  refine g_aload_n hX 0 rfl dX6_demandRoomForRoll_0 rfl ?_
  refine cg_X6_paperCount hX (by decide) rfl q_inX6 q_w3 dX6_demandRoomForRoll_1 ?_
  refine g_iconst hX (4) dX6_demandRoomForRoll_4 rfl ?_
  refine g_icmp_lt (tgt := 19) hX dX6_demandRoomForRoll_5 (by decide) (fun c_5 => ?_) (fun c_5 => ?_)
  · refine t_vret hX hE dX6_demandRoomForRoll_19 (Nat.le_of_ble_eq_true rfl) (Nat.le_of_ble_eq_true rfl) ?_
    exact ⟨_, rfl, rfl, c_5⟩
  · refine t_throwSW hX hQ (text := "there are 4 rolls already") "java/lang/IllegalStateException" rfl (by decide +kernel) q_w1 q_w2 (by decide) q_hat124 hat_124 hgd_124 dX6_demandRoomForRoll_8 dX6_demandRoomForRoll_11 dX6_demandRoomForRoll_12 dX6_demandRoomForRoll_15 dX6_demandRoomForRoll_18 (Nat.le_of_ble_eq_true rfl) (Nat.le_of_ble_eq_true rfl) (Nat.le_of_ble_eq_true rfl) (Nat.le_of_ble_eq_true rfl) (Nat.le_of_ble_eq_true rfl) (Nat.le_of_ble_eq_true rfl) ?_
    refine ⟨rfl, ?_⟩
    exact ⟨rfl, c_5⟩
abbrev rm_X6_roll : Room := { frames := 7, cells := 1, slots := 6, locals := 102 }
theorem hd_X6_roll : yX6_roll.cls = RX6 ∧ yX6_roll.cls ≠ "java/lang/invoke/MethodHandle" ∧ yX6_roll.cls ≠ "java/lang/invoke/VarHandle" ∧ (parseMethodDescriptor yX6_roll.desc).map (fun d => d.parameters.length) = some 0 := by decide +kernel
set_option maxRecDepth 100000 in
set_option maxHeartbeats 4000000 in
theorem k_X6_roll {D : va_G} {dT : Nat → ClassId} {ad : Nat → Nat} (I : Nat → Nat → Int32) : KTI yX6_roll wsX6_roll rm_X6_roll D dT ad I [.ref (ad 0)] 1 6 (fun q J => krl I = 0 ∧ up2 I 0 6 (I 0 6 + 1) = J ∧ I 0 6 + 1 - 1 = q) (fun E => (E = xIS ∧ (krl I) = 1)) := by
  intro l9 hl9
  refine ti_of hl9 (own := RX6) (cc := cX6_roll) (maxL := 1) (some .int) [(0, .ref (ad 0))] (by decide) rfl rfl rfl (Nat.le_of_ble_eq_true rfl) ?_
  intro X hX hE hN
  have hQ := FI.x hE
  refine g_aload_n hX 0 rfl dX6_roll_0 rfl ?_
  refine ct_callV_V hX hQ [] 10 (by decide) rfl (by decide) rfl (k_X6_demandRoomForRoll I ) gX6_roll_X6_demandRoomForRoll rfl rfl rfl hd_X6_demandRoomForRoll ⟨Nat.le_of_ble_eq_true rfl, Nat.le_of_ble_eq_true rfl⟩ ⟨Nat.le_of_ble_eq_true rfl, Nat.le_of_ble_eq_true rfl⟩ (Nat.le_of_ble_eq_true rfl) (Nat.le_of_ble_eq_true rfl) (fun E h9 => by obtain ⟨rfl, h9⟩ := h9; exact ⟨rfl, by simp [krl, h9]⟩) rfl (Nat.le_of_ble_eq_true rfl) dX6_roll_1 (fun J_1 h_1 => ?_)
  obtain ⟨rfl, w_1⟩ := h_1
  refine g_aload_n hX 0 rfl dX6_roll_4 rfl ?_
  refine c_callI_V hX [] 10 (by decide) rfl (by decide) rfl (k_X6_addRoll I ) gX6_roll_X6_addRoll rfl rfl rfl hd_X6_addRoll ⟨Nat.le_of_ble_eq_true rfl, Nat.le_of_ble_eq_true rfl⟩ ⟨Nat.le_of_ble_eq_true rfl, Nat.le_of_ble_eq_true rfl⟩ rfl (Nat.le_of_ble_eq_true rfl) dX6_roll_5 (fun r_5 J_5 h_5 => ?_)
  obtain ⟨rfl, rfl⟩ := h_5
  refine t_iret hX hE dX6_roll_8 (Nat.le_of_ble_eq_true rfl) (Nat.le_of_ble_eq_true rfl) ?_
  exact ⟨_, rfl, by simp [krl, w_1], rfl, rfl⟩
abbrev rm_X6_punch : Room := { frames := 7, cells := 3, slots := 18, locals := 104 }
theorem hd_X6_punch : yX6_punch.cls = RX6 ∧ yX6_punch.cls ≠ "java/lang/invoke/MethodHandle" ∧ yX6_punch.cls ≠ "java/lang/invoke/VarHandle" ∧ (parseMethodDescriptor yX6_punch.desc).map (fun d => d.parameters.length) = some 4 := by decide +kernel
set_option maxRecDepth 100000 in
set_option maxHeartbeats 4000000 in
theorem k_X6_punch {D : va_G} {dT : Nat → ClassId} {ad : Nat → Nat} (I : Nat → Nat → Int32) (r row t is : Int32) : KTI yX6_punch wsX6_punch rm_X6_punch D dT ad I [.ref (ad 0), .int r, .int row, .int t, .int is] 3 18 (fun q J => kpu I r row t = 0 ∧ pnI I r row t is = J ∧ hh I r.toNatClampNeg row t = q) (fun E => (E = xIO ∧ (kpu I r row t) = 1) ∨ (E = xIA ∧ (kpu I r row t) = 2)) := by
  intro l9 hl9
  refine ti_of hl9 (own := RX6) (cc := cX6_punch) (maxL := 7) (some .boolean) [(0, .ref (ad 0)), (1, .int r), (2, .int row), (3, .int t), (4, .int is)] (by decide) rfl rfl rfl (Nat.le_of_ble_eq_true rfl) ?_
  intro X hX hE hN
  have hQ := FI.x hE
  refine g_aload_n hX 0 rfl dX6_punch_0 rfl ?_
  refine g_iload_n hX 1 rfl dX6_punch_1 rfl ?_
  refine ct_callQ_V hX hQ [.int r] 10 (by decide) rfl (by decide) rfl (k_X6_demandPaper I r) gX6_punch_X6_demandPaper rfl rfl rfl hd_X6_demandPaper ⟨Nat.le_of_ble_eq_true rfl, Nat.le_of_ble_eq_true rfl⟩ ⟨Nat.le_of_ble_eq_true rfl, Nat.le_of_ble_eq_true rfl⟩ (Nat.le_of_ble_eq_true rfl) (Nat.le_of_ble_eq_true rfl) (fun E h9 => by obtain ⟨rfl, h9⟩ := h9; exact ⟨rfl, by simp [kpu, h9]⟩) rfl (Nat.le_of_ble_eq_true rfl) dX6_punch_2 (fun r_2 J_2 h_2 => ?_)
  obtain ⟨rfl, rfl, hi_2, rp_2⟩ := h_2
  refine g_stk (st2 := .ref (ad (4 + r.toNatClampNeg)) :: []) rfl ?_
  refine g_astore hX [(5, .ref (ad (4 + r.toNatClampNeg))), (0, .ref (ad 0)), (1, .int r), (2, .int row), (3, .int t), (4, .int is)] rfl dX6_punch_5 (by decide) ?_
  refine g_iload_n hX 3 rfl dX6_punch_7 rfl ?_
  refine g_iconst hX (0) dX6_punch_8 rfl ?_
  refine g_sipush hX (199) dX6_punch_9 rfl ?_
  refine ct_callV_S hX hQ [.int row, .int 0, .int 199] (k_X6_demandWithin I row 0 199) gX6_punch_X6_demandWithin rfl rfl rfl hd_X6_demandWithin.2 ⟨Nat.le_of_ble_eq_true rfl, Nat.le_of_ble_eq_true rfl⟩ ⟨Nat.le_of_ble_eq_true rfl, Nat.le_of_ble_eq_true rfl⟩ (Nat.le_of_ble_eq_true rfl) (Nat.le_of_ble_eq_true rfl) (fun E h9 => by obtain ⟨rfl, h9⟩ := h9; exact ⟨rfl, by simp [kpu, h9, rp_2]⟩) rfl (Nat.le_of_ble_eq_true rfl) dX6_punch_12 (fun J_12 h_12 => ?_)
  obtain ⟨rfl, w_12⟩ := h_12
  refine g_iload_n hX 4 rfl dX6_punch_15 rfl ?_
  refine g_iconst hX (0) dX6_punch_16 rfl ?_
  refine g_bipush hX (15) dX6_punch_17 rfl ?_
  refine ct_callV_S hX hQ [.int t, .int 0, .int 15] (k_X6_demandWithin I t 0 15) gX6_punch_X6_demandWithin rfl rfl rfl hd_X6_demandWithin.2 ⟨Nat.le_of_ble_eq_true rfl, Nat.le_of_ble_eq_true rfl⟩ ⟨Nat.le_of_ble_eq_true rfl, Nat.le_of_ble_eq_true rfl⟩ (Nat.le_of_ble_eq_true rfl) (Nat.le_of_ble_eq_true rfl) (fun E h9 => by obtain ⟨rfl, h9⟩ := h9; exact ⟨rfl, by simp [kpu, h9, rp_2, w_12]⟩) rfl (Nat.le_of_ble_eq_true rfl) dX6_punch_19 (fun J_19 h_19 => ?_)
  obtain ⟨rfl, w_19⟩ := h_19
  refine g_aload hX 0 rfl dX6_punch_22 ?_
  refine g_iload_n hX 3 rfl dX6_punch_24 rfl ?_
  refine g_iload_n hX 4 rfl dX6_punch_25 rfl ?_
  refine c_callI_V hX [.int row, .int t] 5 (by omega) (cK_p hi_2) (by decide) rfl (k_X1_hasHole I r.toNatClampNeg hi_2 row t) gX6_punch_X1_hasHole rfl rfl rfl hd_X1_hasHole ⟨Nat.le_of_ble_eq_true rfl, Nat.le_of_ble_eq_true rfl⟩ ⟨Nat.le_of_ble_eq_true rfl, Nat.le_of_ble_eq_true rfl⟩ rfl (Nat.le_of_ble_eq_true rfl) dX6_punch_26 (fun r_26 J_26 h_26 => ?_)
  obtain ⟨rfl, rfl⟩ := h_26
  refine g_istore hX [(6, .int (hh I r.toNatClampNeg row t)), (5, .ref (ad (4 + r.toNatClampNeg))), (0, .ref (ad 0)), (1, .int r), (2, .int row), (3, .int t), (4, .int is)] rfl dX6_punch_29 (by decide) ?_
  refine g_iload hX 0 rfl dX6_punch_31 ?_
  refine g_iload hX 6 rfl dX6_punch_33 ?_
  refine g_icmp_eq (tgt := 52) hX dX6_punch_35 (by decide) (fun c_35 => ?_) (fun c_35 => ?_)
  · refine g_iload hX 0 rfl dX6_punch_52 ?_
    refine t_zret hX (nz_hh _ _ _ _) hE dX6_punch_54 (Nat.le_of_ble_eq_true rfl) (Nat.le_of_ble_eq_true rfl) ?_
    exact ⟨_, rfl, by simp [kpu, rp_2, w_12, w_19], by rw [pnI, if_pos c_35], rfl⟩
  · refine g_aload hX 1 rfl dX6_punch_38 ?_
    refine g_iload_n hX 4 rfl dX6_punch_40 rfl ?_
    refine g_iload_n hX 5 rfl dX6_punch_41 rfl ?_
    refine g_iload hX 6 rfl dX6_punch_42 ?_
    refine c_callV_V hX [.int row, .int t, .int is] 5 (by omega) (cK_p hi_2) (by decide) rfl (k_X1_putHole I r.toNatClampNeg hi_2 row t is) gX6_punch_X1_putHole rfl rfl rfl hd_X1_putHole ⟨Nat.le_of_ble_eq_true rfl, Nat.le_of_ble_eq_true rfl⟩ ⟨Nat.le_of_ble_eq_true rfl, Nat.le_of_ble_eq_true rfl⟩ rfl (Nat.le_of_ble_eq_true rfl) dX6_punch_44 (fun J_44 h_44 => ?_)
    subst h_44
    refine g_aload_n hX 2 rfl dX6_punch_47 rfl ?_
    refine g_iload_n hX 3 rfl dX6_punch_48 rfl ?_
    refine c_callV_V hX [.int r] 10 (by decide) rfl (by decide) rfl (k_X6_forgetArrangementOf (ph I r.toNatClampNeg row t is) r) gX6_punch_X6_forgetArrangementOf rfl rfl rfl hd_X6_forgetArrangementOf ⟨Nat.le_of_ble_eq_true rfl, Nat.le_of_ble_eq_true rfl⟩ ⟨Nat.le_of_ble_eq_true rfl, Nat.le_of_ble_eq_true rfl⟩ rfl (Nat.le_of_ble_eq_true rfl) dX6_punch_49 (fun J_49 h_49 => ?_)
    subst h_49
    refine g_iload hX 0 rfl dX6_punch_52 ?_
    refine t_zret hX (nz_hh _ _ _ _) hE dX6_punch_54 (Nat.le_of_ble_eq_true rfl) (Nat.le_of_ble_eq_true rfl) ?_
    exact ⟨_, rfl, by simp [kpu, rp_2, w_12, w_19], by rw [pnI, if_neg c_35], rfl⟩
abbrev rm_X6_hole : Room := { frames := 7, cells := 3, slots := 18, locals := 104 }
theorem hd_X6_hole : yX6_hole.cls = RX6 ∧ yX6_hole.cls ≠ "java/lang/invoke/MethodHandle" ∧ yX6_hole.cls ≠ "java/lang/invoke/VarHandle" ∧ (parseMethodDescriptor yX6_hole.desc).map (fun d => d.parameters.length) = some 3 := by decide +kernel
set_option maxRecDepth 100000 in
set_option maxHeartbeats 4000000 in
theorem k_X6_hole {D : va_G} {dT : Nat → ClassId} {ad : Nat → Nat} (I : Nat → Nat → Int32) (r row t : Int32) : KTI yX6_hole wsX6_hole rm_X6_hole D dT ad I [.ref (ad 0), .int r, .int row, .int t] 3 18 (fun q J => kpu I r row t = 0 ∧ I = J ∧ hh I r.toNatClampNeg row t = q) (fun E => (E = xIO ∧ (kpu I r row t) = 1) ∨ (E = xIA ∧ (kpu I r row t) = 2)) := by
  intro l9 hl9
  refine ti_of hl9 (own := RX6) (cc := cX6_hole) (maxL := 5) (some .boolean) [(0, .ref (ad 0)), (1, .int r), (2, .int row), (3, .int t)] (by decide) rfl rfl rfl (Nat.le_of_ble_eq_true rfl) ?_
  intro X hX hE hN
  have hQ := FI.x hE
  refine g_aload_n hX 0 rfl dX6_hole_0 rfl ?_
  refine g_iload_n hX 1 rfl dX6_hole_1 rfl ?_
  refine ct_callQ_V hX hQ [.int r] 10 (by decide) rfl (by decide) rfl (k_X6_demandPaper I r) gX6_hole_X6_demandPaper rfl rfl rfl hd_X6_demandPaper ⟨Nat.le_of_ble_eq_true rfl, Nat.le_of_ble_eq_true rfl⟩ ⟨Nat.le_of_ble_eq_true rfl, Nat.le_of_ble_eq_true rfl⟩ (Nat.le_of_ble_eq_true rfl) (Nat.le_of_ble_eq_true rfl) (fun E h9 => by obtain ⟨rfl, h9⟩ := h9; exact ⟨rfl, by simp [kpu, h9]⟩) rfl (Nat.le_of_ble_eq_true rfl) dX6_hole_2 (fun r_2 J_2 h_2 => ?_)
  obtain ⟨rfl, rfl, hi_2, rp_2⟩ := h_2
  refine g_stk (st2 := .ref (ad (4 + r.toNatClampNeg)) :: []) rfl ?_
  refine g_astore hX [(4, .ref (ad (4 + r.toNatClampNeg))), (0, .ref (ad 0)), (1, .int r), (2, .int row), (3, .int t)] rfl dX6_hole_5 (by decide) ?_
  refine g_iload_n hX 3 rfl dX6_hole_7 rfl ?_
  refine g_iconst hX (0) dX6_hole_8 rfl ?_
  refine g_sipush hX (199) dX6_hole_9 rfl ?_
  refine ct_callV_S hX hQ [.int row, .int 0, .int 199] (k_X6_demandWithin I row 0 199) gX6_hole_X6_demandWithin rfl rfl rfl hd_X6_demandWithin.2 ⟨Nat.le_of_ble_eq_true rfl, Nat.le_of_ble_eq_true rfl⟩ ⟨Nat.le_of_ble_eq_true rfl, Nat.le_of_ble_eq_true rfl⟩ (Nat.le_of_ble_eq_true rfl) (Nat.le_of_ble_eq_true rfl) (fun E h9 => by obtain ⟨rfl, h9⟩ := h9; exact ⟨rfl, by simp [kpu, h9, rp_2]⟩) rfl (Nat.le_of_ble_eq_true rfl) dX6_hole_12 (fun J_12 h_12 => ?_)
  obtain ⟨rfl, w_12⟩ := h_12
  refine g_iload_n hX 4 rfl dX6_hole_15 rfl ?_
  refine g_iconst hX (0) dX6_hole_16 rfl ?_
  refine g_bipush hX (15) dX6_hole_17 rfl ?_
  refine ct_callV_S hX hQ [.int t, .int 0, .int 15] (k_X6_demandWithin I t 0 15) gX6_hole_X6_demandWithin rfl rfl rfl hd_X6_demandWithin.2 ⟨Nat.le_of_ble_eq_true rfl, Nat.le_of_ble_eq_true rfl⟩ ⟨Nat.le_of_ble_eq_true rfl, Nat.le_of_ble_eq_true rfl⟩ (Nat.le_of_ble_eq_true rfl) (Nat.le_of_ble_eq_true rfl) (fun E h9 => by obtain ⟨rfl, h9⟩ := h9; exact ⟨rfl, by simp [kpu, h9, rp_2, w_12]⟩) rfl (Nat.le_of_ble_eq_true rfl) dX6_hole_19 (fun J_19 h_19 => ?_)
  obtain ⟨rfl, w_19⟩ := h_19
  refine g_aload hX 0 rfl dX6_hole_22 ?_
  refine g_iload_n hX 3 rfl dX6_hole_24 rfl ?_
  refine g_iload_n hX 4 rfl dX6_hole_25 rfl ?_
  refine c_callI_V hX [.int row, .int t] 5 (by omega) (cK_p hi_2) (by decide) rfl (k_X1_hasHole I r.toNatClampNeg hi_2 row t) gX6_hole_X1_hasHole rfl rfl rfl hd_X1_hasHole ⟨Nat.le_of_ble_eq_true rfl, Nat.le_of_ble_eq_true rfl⟩ ⟨Nat.le_of_ble_eq_true rfl, Nat.le_of_ble_eq_true rfl⟩ rfl (Nat.le_of_ble_eq_true rfl) dX6_hole_26 (fun r_26 J_26 h_26 => ?_)
  obtain ⟨rfl, rfl⟩ := h_26
  refine t_zret hX (nz_hh _ _ _ _) hE dX6_hole_29 (Nat.le_of_ble_eq_true rfl) (Nat.le_of_ble_eq_true rfl) ?_
  exact ⟨_, rfl, by simp [kpu, rp_2, w_12, w_19], rfl, rfl⟩
abbrev rm_X6_length : Room := { frames := 7, cells := 1, slots := 6, locals := 103 }
theorem hd_X6_length : yX6_length.cls = RX6 ∧ yX6_length.cls ≠ "java/lang/invoke/MethodHandle" ∧ yX6_length.cls ≠ "java/lang/invoke/VarHandle" ∧ (parseMethodDescriptor yX6_length.desc).map (fun d => d.parameters.length) = some 1 := by decide +kernel
set_option maxRecDepth 100000 in
set_option maxHeartbeats 4000000 in
theorem k_X6_length {D : va_G} {dT : Nat → ClassId} {ad : Nat → Nat} (I : Nat → Nat → Int32) (r : Int32) : KTI yX6_length wsX6_length rm_X6_length D dT ad I [.ref (ad 0), .int r] 1 6 (fun q J => kr1 I r = 0 ∧ I = J ∧ crw (I (8 + r.toNatClampNeg)) 200 = q) (fun E => (E = xIO ∧ (kr1 I r) = 1)) := by
  intro l9 hl9
  refine ti_of hl9 (own := RX6) (cc := cX6_length) (maxL := 2) (some .int) [(0, .ref (ad 0)), (1, .int r)] (by decide) rfl rfl rfl (Nat.le_of_ble_eq_true rfl) ?_
  intro X hX hE hN
  have hQ := FI.x hE
  refine g_aload_n hX 0 rfl dX6_length_0 rfl ?_
  refine g_iload_n hX 1 rfl dX6_length_1 rfl ?_
  refine ct_callQ_V hX hQ [.int r] 10 (by decide) rfl (by decide) rfl (k_X6_demandPaper I r) gX6_length_X6_demandPaper rfl rfl rfl hd_X6_demandPaper ⟨Nat.le_of_ble_eq_true rfl, Nat.le_of_ble_eq_true rfl⟩ ⟨Nat.le_of_ble_eq_true rfl, Nat.le_of_ble_eq_true rfl⟩ (Nat.le_of_ble_eq_true rfl) (Nat.le_of_ble_eq_true rfl) (fun E h9 => by obtain ⟨rfl, h9⟩ := h9; exact ⟨rfl, by simp [kr1, h9]⟩) rfl (Nat.le_of_ble_eq_true rfl) dX6_length_2 (fun r_2 J_2 h_2 => ?_)
  obtain ⟨rfl, rfl, hi_2, rp_2⟩ := h_2
  refine g_stk (st2 := .ref (ad (4 + r.toNatClampNeg)) :: []) rfl ?_
  refine c_callI_V hX [] 5 (by omega) (cK_p hi_2) (by decide) rfl (k_X1_countRows I r.toNatClampNeg hi_2) gX6_length_X1_countRows rfl rfl rfl hd_X1_countRows ⟨Nat.le_of_ble_eq_true rfl, Nat.le_of_ble_eq_true rfl⟩ ⟨Nat.le_of_ble_eq_true rfl, Nat.le_of_ble_eq_true rfl⟩ rfl (Nat.le_of_ble_eq_true rfl) dX6_length_5 (fun r_5 J_5 h_5 => ?_)
  obtain ⟨rfl, rfl⟩ := h_5
  refine t_iret hX hE dX6_length_8 (Nat.le_of_ble_eq_true rfl) (Nat.le_of_ble_eq_true rfl) ?_
  exact ⟨_, rfl, by simp [kr1, rp_2], rfl, rfl⟩
abbrev rm_X6_holes : Room := { frames := 7, cells := 2, slots := 12, locals := 104 }
theorem hd_X6_holes : yX6_holes.cls = RX6 ∧ yX6_holes.cls ≠ "java/lang/invoke/MethodHandle" ∧ yX6_holes.cls ≠ "java/lang/invoke/VarHandle" ∧ (parseMethodDescriptor yX6_holes.desc).map (fun d => d.parameters.length) = some 2 := by decide +kernel
set_option maxRecDepth 100000 in
set_option maxHeartbeats 4000000 in
theorem k_X6_holes {D : va_G} {dT : Nat → ClassId} {ad : Nat → Nat} (I : Nat → Nat → Int32) (r t : Int32) : KTI yX6_holes wsX6_holes rm_X6_holes D dT ad I [.ref (ad 0), .int r, .int t] 2 12 (fun q J => kho I r t = 0 ∧ I = J ∧ sumB (fun q => bcnt (I (8 + r.toNatClampNeg) q &&& (1 <<< (t &&& 31)))) 200 = q) (fun E => (E = xIO ∧ (kho I r t) = 1) ∨ (E = xIA ∧ (kho I r t) = 2)) := by
  intro l9 hl9
  refine ti_of hl9 (own := RX6) (cc := cX6_holes) (maxL := 4) (some .int) [(0, .ref (ad 0)), (1, .int r), (2, .int t)] (by decide) rfl rfl rfl (Nat.le_of_ble_eq_true rfl) ?_
  intro X hX hE hN
  have hQ := FI.x hE
  refine g_aload_n hX 0 rfl dX6_holes_0 rfl ?_
  refine g_iload_n hX 1 rfl dX6_holes_1 rfl ?_
  refine ct_callQ_V hX hQ [.int r] 10 (by decide) rfl (by decide) rfl (k_X6_demandPaper I r) gX6_holes_X6_demandPaper rfl rfl rfl hd_X6_demandPaper ⟨Nat.le_of_ble_eq_true rfl, Nat.le_of_ble_eq_true rfl⟩ ⟨Nat.le_of_ble_eq_true rfl, Nat.le_of_ble_eq_true rfl⟩ (Nat.le_of_ble_eq_true rfl) (Nat.le_of_ble_eq_true rfl) (fun E h9 => by obtain ⟨rfl, h9⟩ := h9; exact ⟨rfl, by simp [kho, h9]⟩) rfl (Nat.le_of_ble_eq_true rfl) dX6_holes_2 (fun r_2 J_2 h_2 => ?_)
  obtain ⟨rfl, rfl, hi_2, rp_2⟩ := h_2
  refine g_stk (st2 := .ref (ad (4 + r.toNatClampNeg)) :: []) rfl ?_
  refine g_astore_n hX [(3, .ref (ad (4 + r.toNatClampNeg))), (0, .ref (ad 0)), (1, .int r), (2, .int t)] rfl dX6_holes_5 rfl (by decide) ?_
  refine g_iload_n hX 3 rfl dX6_holes_6 rfl ?_
  refine g_iconst hX (0) dX6_holes_7 rfl ?_
  refine g_bipush hX (15) dX6_holes_8 rfl ?_
  refine ct_callV_S hX hQ [.int t, .int 0, .int 15] (k_X6_demandWithin I t 0 15) gX6_holes_X6_demandWithin rfl rfl rfl hd_X6_demandWithin.2 ⟨Nat.le_of_ble_eq_true rfl, Nat.le_of_ble_eq_true rfl⟩ ⟨Nat.le_of_ble_eq_true rfl, Nat.le_of_ble_eq_true rfl⟩ (Nat.le_of_ble_eq_true rfl) (Nat.le_of_ble_eq_true rfl) (fun E h9 => by obtain ⟨rfl, h9⟩ := h9; exact ⟨rfl, by simp [kho, h9, rp_2]⟩) rfl (Nat.le_of_ble_eq_true rfl) dX6_holes_10 (fun J_10 h_10 => ?_)
  obtain ⟨rfl, w_10⟩ := h_10
  refine g_aload_n hX 0 rfl dX6_holes_13 rfl ?_
  refine g_iconst hX (1) dX6_holes_14 rfl ?_
  refine g_iload_n hX 3 rfl dX6_holes_15 rfl ?_
  refine g_ishl hX dX6_holes_16 ?_
  refine c_callI_V hX [.int (1 <<< (t &&& 31))] 5 (by omega) (cK_p hi_2) (by decide) rfl (k_X1_countHoles I r.toNatClampNeg hi_2 (1 <<< (t &&& 31))) gX6_holes_X1_countHoles rfl rfl rfl hd_X1_countHoles ⟨Nat.le_of_ble_eq_true rfl, Nat.le_of_ble_eq_true rfl⟩ ⟨Nat.le_of_ble_eq_true rfl, Nat.le_of_ble_eq_true rfl⟩ rfl (Nat.le_of_ble_eq_true rfl) dX6_holes_17 (fun r_17 J_17 h_17 => ?_)
  obtain ⟨rfl, rfl⟩ := h_17
  refine t_iret hX hE dX6_holes_20 (Nat.le_of_ble_eq_true rfl) (Nat.le_of_ble_eq_true rfl) ?_
  exact ⟨_, rfl, by simp [kho, rp_2, w_10], rfl, rfl⟩
abbrev rm_X6_unlike : Room := { frames := 7, cells := 2, slots := 12, locals := 103 }
theorem hd_X6_unlike : yX6_unlike.cls = RX6 ∧ yX6_unlike.cls ≠ "java/lang/invoke/MethodHandle" ∧ yX6_unlike.cls ≠ "java/lang/invoke/VarHandle" ∧ (parseMethodDescriptor yX6_unlike.desc).map (fun d => d.parameters.length) = some 2 := by decide +kernel
set_option maxRecDepth 100000 in
set_option maxHeartbeats 4000000 in
theorem k_X6_unlike {D : va_G} {dT : Nat → ClassId} {ad : Nat → Nat} (I : Nat → Nat → Int32) (r o : Int32) : KTI yX6_unlike wsX6_unlike rm_X6_unlike D dT ad I [.ref (ad 0), .int r, .int o] 2 12 (fun q J => kun I r o = 0 ∧ I = J ∧ dis I r.toNatClampNeg o.toNatClampNeg = q) (fun E => (E = xIO ∧ (kun I r o) = 1)) := by
  intro l9 hl9
  refine ti_of hl9 (own := RX6) (cc := cX6_unlike) (maxL := 4) (some .int) [(0, .ref (ad 0)), (1, .int r), (2, .int o)] (by decide) rfl rfl rfl (Nat.le_of_ble_eq_true rfl) ?_
  intro X hX hE hN
  have hQ := FI.x hE
  refine g_aload_n hX 0 rfl dX6_unlike_0 rfl ?_
  refine g_iload_n hX 1 rfl dX6_unlike_1 rfl ?_
  refine ct_callQ_V hX hQ [.int r] 10 (by decide) rfl (by decide) rfl (k_X6_demandPaper I r) gX6_unlike_X6_demandPaper rfl rfl rfl hd_X6_demandPaper ⟨Nat.le_of_ble_eq_true rfl, Nat.le_of_ble_eq_true rfl⟩ ⟨Nat.le_of_ble_eq_true rfl, Nat.le_of_ble_eq_true rfl⟩ (Nat.le_of_ble_eq_true rfl) (Nat.le_of_ble_eq_true rfl) (fun E h9 => by obtain ⟨rfl, h9⟩ := h9; exact ⟨rfl, by simp [kun, h9]⟩) rfl (Nat.le_of_ble_eq_true rfl) dX6_unlike_2 (fun r_2 J_2 h_2 => ?_)
  obtain ⟨rfl, rfl, hi_2, rp_2⟩ := h_2
  refine g_stk (st2 := .ref (ad (4 + r.toNatClampNeg)) :: []) rfl ?_
  refine g_astore_n hX [(3, .ref (ad (4 + r.toNatClampNeg))), (0, .ref (ad 0)), (1, .int r), (2, .int o)] rfl dX6_unlike_5 rfl (by decide) ?_
  refine g_aload_n hX 0 rfl dX6_unlike_6 rfl ?_
  refine g_aload_n hX 1 rfl dX6_unlike_7 rfl ?_
  refine g_iload_n hX 3 rfl dX6_unlike_8 rfl ?_
  refine ct_callQ_V hX hQ [.int o] 10 (by decide) rfl (by decide) rfl (k_X6_demandPaper I o) gX6_unlike_X6_demandPaper rfl rfl rfl hd_X6_demandPaper ⟨Nat.le_of_ble_eq_true rfl, Nat.le_of_ble_eq_true rfl⟩ ⟨Nat.le_of_ble_eq_true rfl, Nat.le_of_ble_eq_true rfl⟩ (Nat.le_of_ble_eq_true rfl) (Nat.le_of_ble_eq_true rfl) (fun E h9 => by obtain ⟨rfl, h9⟩ := h9; exact ⟨rfl, by simp [kun, h9, rp_2]⟩) rfl (Nat.le_of_ble_eq_true rfl) dX6_unlike_9 (fun r_9 J_9 h_9 => ?_)
  obtain ⟨rfl, rfl, hi_9, rp_9⟩ := h_9
  refine g_stk (st2 := .ref (ad (4 + o.toNatClampNeg)) :: [.ref (ad (4 + r.toNatClampNeg))]) rfl ?_
  refine c_callI_V hX [.ref (ad (4 + o.toNatClampNeg))] 5 (by omega) (cK_p hi_2) (by decide) rfl (k_X1_countUnlike I r.toNatClampNeg hi_2 o.toNatClampNeg hi_9) gX6_unlike_X1_countUnlike rfl rfl rfl hd_X1_countUnlike ⟨Nat.le_of_ble_eq_true rfl, Nat.le_of_ble_eq_true rfl⟩ ⟨Nat.le_of_ble_eq_true rfl, Nat.le_of_ble_eq_true rfl⟩ rfl (Nat.le_of_ble_eq_true rfl) dX6_unlike_12 (fun r_12 J_12 h_12 => ?_)
  obtain ⟨rfl, rfl⟩ := h_12
  refine t_iret hX hE dX6_unlike_15 (Nat.le_of_ble_eq_true rfl) (Nat.le_of_ble_eq_true rfl) ?_
  exact ⟨_, rfl, by simp [kun, rp_2, rp_9], rfl, rfl⟩
abbrev rm_X6_scanned : Room := { frames := 7, cells := 1, slots := 6, locals := 103 }
theorem hd_X6_scanned : yX6_scanned.cls = RX6 ∧ yX6_scanned.cls ≠ "java/lang/invoke/MethodHandle" ∧ yX6_scanned.cls ≠ "java/lang/invoke/VarHandle" ∧ (parseMethodDescriptor yX6_scanned.desc).map (fun d => d.parameters.length) = some 1 := by decide +kernel
set_option maxRecDepth 100000 in
set_option maxHeartbeats 4000000 in
theorem k_X6_scanned {D : va_G} {dT : Nat → ClassId} {ad : Nat → Nat} (I : Nat → Nat → Int32) (r : Int32) : KTI yX6_scanned wsX6_scanned rm_X6_scanned D dT ad I [.ref (ad 0), .int r] 1 6 (fun q J => kr1 I r = 0 ∧ I = J ∧ sumB (fun q => bcnt (fb I r.toNatClampNeg (nI q))) 200 = q) (fun E => (E = xIO ∧ (kr1 I r) = 1)) := by
  intro l9 hl9
  refine ti_of hl9 (own := RX6) (cc := cX6_scanned) (maxL := 2) (some .int) [(0, .ref (ad 0)), (1, .int r)] (by decide) rfl rfl rfl (Nat.le_of_ble_eq_true rfl) ?_
  intro X hX hE hN
  have hQ := FI.x hE
  refine g_aload_n hX 0 rfl dX6_scanned_0 rfl ?_
  refine g_iload_n hX 1 rfl dX6_scanned_1 rfl ?_
  refine ct_callQ_V hX hQ [.int r] 10 (by decide) rfl (by decide) rfl (k_X6_demandPaper I r) gX6_scanned_X6_demandPaper rfl rfl rfl hd_X6_demandPaper ⟨Nat.le_of_ble_eq_true rfl, Nat.le_of_ble_eq_true rfl⟩ ⟨Nat.le_of_ble_eq_true rfl, Nat.le_of_ble_eq_true rfl⟩ (Nat.le_of_ble_eq_true rfl) (Nat.le_of_ble_eq_true rfl) (fun E h9 => by obtain ⟨rfl, h9⟩ := h9; exact ⟨rfl, by simp [kr1, h9]⟩) rfl (Nat.le_of_ble_eq_true rfl) dX6_scanned_2 (fun r_2 J_2 h_2 => ?_)
  obtain ⟨rfl, rfl, hi_2, rp_2⟩ := h_2
  refine g_stk (st2 := .ref (ad (4 + r.toNatClampNeg)) :: []) rfl ?_
  refine c_callI_V hX [] 5 (by omega) (cK_p hi_2) (by decide) rfl (k_X1_countNotes I r.toNatClampNeg hi_2) gX6_scanned_X1_countNotes rfl rfl rfl hd_X1_countNotes ⟨Nat.le_of_ble_eq_true rfl, Nat.le_of_ble_eq_true rfl⟩ ⟨Nat.le_of_ble_eq_true rfl, Nat.le_of_ble_eq_true rfl⟩ rfl (Nat.le_of_ble_eq_true rfl) dX6_scanned_5 (fun r_5 J_5 h_5 => ?_)
  obtain ⟨rfl, rfl⟩ := h_5
  refine t_iret hX hE dX6_scanned_8 (Nat.le_of_ble_eq_true rfl) (Nat.le_of_ble_eq_true rfl) ?_
  exact ⟨_, rfl, by simp [kr1, rp_2], rfl, rfl⟩
abbrev rm_X6_copy : Room := { frames := 7, cells := 3, slots := 18, locals := 103 }
theorem hd_X6_copy : yX6_copy.cls = RX6 ∧ yX6_copy.cls ≠ "java/lang/invoke/MethodHandle" ∧ yX6_copy.cls ≠ "java/lang/invoke/VarHandle" ∧ (parseMethodDescriptor yX6_copy.desc).map (fun d => d.parameters.length) = some 1 := by decide +kernel
set_option maxRecDepth 100000 in
set_option maxHeartbeats 4000000 in
theorem k_X6_copy {D : va_G} {dT : Nat → ClassId} {ad : Nat → Nat} (I : Nat → Nat → Int32) (np : Nat) (hnp : I 0 6 = nI np) (hn4 : np ≤ 4) (r : Int32) : KTI yX6_copy wsX6_copy rm_X6_copy D dT ad I [.ref (ad 0), .int r] 3 18 (fun q J => kcp I r = 0 ∧ upr (up2 I 0 6 (I 0 6 + 1)) (8 + np) (fun q => if q < 200 then (up2 I 0 6 (I 0 6 + 1)) (8 + r.toNatClampNeg) q else (up2 I 0 6 (I 0 6 + 1)) (8 + np) q) = J ∧ nI np = q) (fun E => (E = xIO ∧ (kcp I r) = 1) ∨ (E = xIS ∧ (kcp I r) = 2)) := by
  intro l9 hl9
  refine ti_of hl9 (own := RX6) (cc := cX6_copy) (maxL := 4) (some .int) [(0, .ref (ad 0)), (1, .int r)] (by decide) rfl rfl rfl (Nat.le_of_ble_eq_true rfl) ?_
  intro X hX hE hN
  have hQ := FI.x hE
  refine g_aload_n hX 0 rfl dX6_copy_0 rfl ?_
  refine g_iload_n hX 1 rfl dX6_copy_1 rfl ?_
  refine ct_callQ_V hX hQ [.int r] 10 (by decide) rfl (by decide) rfl (k_X6_demandPaper I r) gX6_copy_X6_demandPaper rfl rfl rfl hd_X6_demandPaper ⟨Nat.le_of_ble_eq_true rfl, Nat.le_of_ble_eq_true rfl⟩ ⟨Nat.le_of_ble_eq_true rfl, Nat.le_of_ble_eq_true rfl⟩ (Nat.le_of_ble_eq_true rfl) (Nat.le_of_ble_eq_true rfl) (fun E h9 => by obtain ⟨rfl, h9⟩ := h9; exact ⟨rfl, by simp [kcp, h9]⟩) rfl (Nat.le_of_ble_eq_true rfl) dX6_copy_2 (fun r_2 J_2 h_2 => ?_)
  obtain ⟨rfl, rfl, hi_2, rp_2⟩ := h_2
  refine g_stk (st2 := .ref (ad (4 + r.toNatClampNeg)) :: []) (by first | rfl | (rw [nI_clamp (by omega)]; rfl)) ?_
  refine g_astore_n hX [(2, .ref (ad (4 + r.toNatClampNeg))), (0, .ref (ad 0)), (1, .int r)] rfl dX6_copy_5 rfl (by decide) ?_
  refine g_aload_n hX 1 rfl dX6_copy_6 rfl ?_
  refine ct_callV_V hX hQ [] 10 (by decide) rfl (by decide) rfl (k_X6_demandRoomForRoll I ) gX6_copy_X6_demandRoomForRoll rfl rfl rfl hd_X6_demandRoomForRoll ⟨Nat.le_of_ble_eq_true rfl, Nat.le_of_ble_eq_true rfl⟩ ⟨Nat.le_of_ble_eq_true rfl, Nat.le_of_ble_eq_true rfl⟩ (Nat.le_of_ble_eq_true rfl) (Nat.le_of_ble_eq_true rfl) (fun E h9 => by obtain ⟨rfl, h9⟩ := h9; exact ⟨rfl, by simp [kcp, h9, rp_2]⟩) rfl (Nat.le_of_ble_eq_true rfl) dX6_copy_7 (fun J_7 h_7 => ?_)
  obtain ⟨rfl, w_7⟩ := h_7
  refine g_aload_n hX 1 rfl dX6_copy_10 rfl ?_
  refine c_callI_V hX [] 10 (by decide) rfl (by decide) rfl (k_X6_addRoll I ) gX6_copy_X6_addRoll rfl rfl rfl hd_X6_addRoll ⟨Nat.le_of_ble_eq_true rfl, Nat.le_of_ble_eq_true rfl⟩ ⟨Nat.le_of_ble_eq_true rfl, Nat.le_of_ble_eq_true rfl⟩ rfl (Nat.le_of_ble_eq_true rfl) dX6_copy_11 (fun r_11 J_11 h_11 => ?_)
  obtain ⟨rfl, rfl⟩ := h_11
  refine g_eqi (y := nI np) (by rw [hnp, nI_1]; exact nI_pred np) ?_
  refine g_istore_n hX [(3, .int (nI np)), (2, .ref (ad (4 + r.toNatClampNeg))), (0, .ref (ad 0)), (1, .int r)] rfl dX6_copy_14 rfl (by decide) ?_
  refine g_aload_n hX 2 rfl dX6_copy_15 rfl ?_
  refine g_iload_n hX 0 rfl dX6_copy_16 rfl ?_
  refine ct_callQ_V hX hQ [.int (nI np)] 10 (by decide) rfl (by decide) rfl (k_X6_demandPaper (up2 I 0 6 (I 0 6 + 1)) (nI np)) gX6_copy_X6_demandPaper rfl rfl rfl hd_X6_demandPaper ⟨Nat.le_of_ble_eq_true rfl, Nat.le_of_ble_eq_true rfl⟩ ⟨Nat.le_of_ble_eq_true rfl, Nat.le_of_ble_eq_true rfl⟩ (Nat.le_of_ble_eq_true rfl) (Nat.le_of_ble_eq_true rfl) (fun E h9 => absurd (h9.2.symm.trans (rp_in (by rw [up2_s, hnp, nI_1]) (Nat.lt_succ_self np) (by have := (nI_ltI (a := np) (b := 4) (by omega) (by omega)).mp (by rw [← hnp]; exact w_7); omega))) (by decide)) rfl (Nat.le_of_ble_eq_true rfl) dX6_copy_17 (fun r_17 J_17 h_17 => ?_)
  obtain ⟨rfl, rfl, hi_17, rp_17⟩ := h_17
  refine g_stk (st2 := .ref (ad (4 + np)) :: []) (by first | rfl | (rw [nI_clamp (by omega)]; rfl)) ?_
  refine g_aload_n hX 1 rfl dX6_copy_20 rfl ?_
  refine c_callV_V hX [.ref (ad (4 + r.toNatClampNeg))] 5 (by omega) (cK_p (np_lt hnp hn4 w_7)) (by decide) rfl (k_X1_takeHolesOf (up2 I 0 6 (I 0 6 + 1)) np (np_lt hnp hn4 w_7) r.toNatClampNeg hi_2 (rp_ne hnp rp_2 hn4)) gX6_copy_X1_takeHolesOf rfl rfl rfl hd_X1_takeHolesOf ⟨Nat.le_of_ble_eq_true rfl, Nat.le_of_ble_eq_true rfl⟩ ⟨Nat.le_of_ble_eq_true rfl, Nat.le_of_ble_eq_true rfl⟩ rfl (Nat.le_of_ble_eq_true rfl) dX6_copy_21 (fun J_21 h_21 => ?_)
  subst h_21
  refine g_iload_n hX 0 rfl dX6_copy_24 rfl ?_
  refine t_iret hX hE dX6_copy_25 (Nat.le_of_ble_eq_true rfl) (Nat.le_of_ble_eq_true rfl) ?_
  exact ⟨_, rfl, by simp [kcp, rp_2, w_7], rfl, rfl⟩
abbrev rm_X6_parent : Room := { frames := 7, cells := 8, slots := 48, locals := 103 }
theorem hd_X6_parent : yX6_parent.cls = RX6 ∧ yX6_parent.cls ≠ "java/lang/invoke/MethodHandle" ∧ yX6_parent.cls ≠ "java/lang/invoke/VarHandle" ∧ (parseMethodDescriptor yX6_parent.desc).map (fun d => d.parameters.length) = some 1 := by decide +kernel
set_option maxRecDepth 100000 in
set_option maxHeartbeats 4000000 in
theorem k_X6_parent {D : va_G} {dT : Nat → ClassId} {ad : Nat → Nat} (I : Nat → Nat → Int32) (np : Nat) (hnp : I 0 6 = nI np) (hn4 : np ≤ 4) (r : Int32) : KTI yX6_parent wsX6_parent rm_X6_parent D dT ad I [.ref (ad 0), .int r] 8 48 (fun q J => kpa I r = 0 ∧ I = J ∧ nI (pfl I r.toNatClampNeg (r.toNatClampNeg - 1) 1 0 (dis I r.toNatClampNeg 0)) = q) (fun E => (E = xIO ∧ (kpa I r) = 1) ∨ (E = xNS ∧ (kpa I r) = 2)) := by
  intro l9 hl9
  refine ti_of hl9 (own := RX6) (cc := cX6_parent) (maxL := 7) (some .int) [(0, .ref (ad 0)), (1, .int r)] (by decide) rfl rfl rfl (Nat.le_of_ble_eq_true rfl) ?_
  intro X hX hE hN
  have hQ := FI.x hE
  have q_w1 : Cond.classLink RX6 100 "java/util/NoSuchElementException" ∈ wsX6_parent := List.mem_of_getElem? (i := 1) rfl
  have q_w2 : Cond.initialized "java/util/NoSuchElementException" ∈ wsX6_parent := List.mem_of_getElem? (i := 2) rfl
  have q_hat104 : ∀ w ∈ (vx_atS RX6 104 "java/util/NoSuchElementException" ["java/lang/RuntimeException", "java/lang/Exception"]).filter goodWord, w ∈ wsX6_parent := by decide +kernel
  by_cases hr0 : rp I r = 0
  · refine g_aload_n hX 0 rfl dX6_parent_0 rfl ?_
    refine g_iload_n hX 1 rfl dX6_parent_1 rfl ?_
    refine ct_callQ_V hX hQ [.int r] 10 (by decide) rfl (by decide) rfl (k_X6_demandPaper I r) gX6_parent_X6_demandPaper rfl rfl rfl hd_X6_demandPaper ⟨Nat.le_of_ble_eq_true rfl, Nat.le_of_ble_eq_true rfl⟩ ⟨Nat.le_of_ble_eq_true rfl, Nat.le_of_ble_eq_true rfl⟩ (Nat.le_of_ble_eq_true rfl) (Nat.le_of_ble_eq_true rfl) (fun E h9 => by obtain ⟨rfl, h9⟩ := h9; exact ⟨rfl, by simp [kpa, h9]⟩) rfl (Nat.le_of_ble_eq_true rfl) dX6_parent_2 (fun r_2 J_2 h_2 => ?_)
    obtain ⟨rfl, rfl, hi_2, rp_2⟩ := h_2
    refine g_stk (st2 := .ref (ad (4 + r.toNatClampNeg)) :: []) (by first | rfl | (rw [nI_clamp (by omega)]; rfl)) ?_
    exact absurd (hr0.symm.trans rp_2) (by decide)
  · have hr9 := rp_1 hr0
    obtain ⟨i, hi, rfl⟩ : ∃ i, i < 4 ∧ r = nI i := ⟨_, (rp_ix hr0).2, (rp_ix hr0).1⟩
    refine g_aload_n hX 0 rfl dX6_parent_0 rfl ?_
    refine g_iload_n hX 1 rfl dX6_parent_1 rfl ?_
    refine ct_callQ_V hX hQ [.int (nI i)] 10 (by decide) rfl (by decide) rfl (k_X6_demandPaper I (nI i)) gX6_parent_X6_demandPaper rfl rfl rfl hd_X6_demandPaper ⟨Nat.le_of_ble_eq_true rfl, Nat.le_of_ble_eq_true rfl⟩ ⟨Nat.le_of_ble_eq_true rfl, Nat.le_of_ble_eq_true rfl⟩ (Nat.le_of_ble_eq_true rfl) (Nat.le_of_ble_eq_true rfl) (fun E h9 => by obtain ⟨rfl, h9⟩ := h9; exact ⟨rfl, by simp [kpa, h9]⟩) rfl (Nat.le_of_ble_eq_true rfl) dX6_parent_2 (fun r_2 J_2 h_2 => ?_)
    obtain ⟨rfl, rfl, hi_2, rp_2⟩ := h_2
    refine g_stk (st2 := .ref (ad (4 + i)) :: []) (by first | rfl | (rw [nI_clamp (by omega)]; rfl)) ?_
    refine g_astore_n hX [(2, .ref (ad (4 + i))), (0, .ref (ad 0)), (1, .int (nI i))] rfl dX6_parent_5 rfl (by decide) ?_
    refine g_iload_n hX 2 rfl dX6_parent_6 rfl ?_
    refine g_if_ne (tgt := 20) hX dX6_parent_7 (by decide) (fun c_7 => ?_) (fun c_7 => ?_)
    · refine g_iconst hX (0) dX6_parent_20 rfl ?_
      refine g_istore_n hX [(3, .int 0), (2, .ref (ad (4 + i))), (0, .ref (ad 0)), (1, .int (nI i))] rfl dX6_parent_21 rfl (by decide) ?_
      refine g_aload_n hX 1 rfl dX6_parent_22 rfl ?_
      refine g_aload_n hX 2 rfl dX6_parent_23 rfl ?_
      refine g_iconst hX (0) dX6_parent_24 rfl ?_
      refine ct_callQ_V hX hQ [.int 0] 10 (by decide) rfl (by decide) rfl (k_X6_demandPaper I (0 : Int32)) gX6_parent_X6_demandPaper rfl rfl rfl hd_X6_demandPaper ⟨Nat.le_of_ble_eq_true rfl, Nat.le_of_ble_eq_true rfl⟩ ⟨Nat.le_of_ble_eq_true rfl, Nat.le_of_ble_eq_true rfl⟩ (Nat.le_of_ble_eq_true rfl) (Nat.le_of_ble_eq_true rfl) (fun E h9 => absurd (h9.2.symm.trans (rp_in hnp (show 0 < np by have := rp_lt hnp hn4 hr9 (by omega); omega) (by decide))) (by decide)) rfl (Nat.le_of_ble_eq_true rfl) dX6_parent_25 (fun r_25 J_25 h_25 => ?_)
      obtain ⟨rfl, rfl, hi_25, rp_25⟩ := h_25
      refine g_stk (st2 := .ref (ad (4 + 0)) :: [.ref (ad (4 + i))]) (by first | rfl | (rw [nI_clamp (by omega)]; rfl)) ?_
      refine c_callI_V hX [.ref (ad (4 + 0))] 5 (by omega) (cK_p hi) (by decide) rfl (k_X1_countUnlike I i hi 0 (by omega)) gX6_parent_X1_countUnlike rfl rfl rfl hd_X1_countUnlike ⟨Nat.le_of_ble_eq_true rfl, Nat.le_of_ble_eq_true rfl⟩ ⟨Nat.le_of_ble_eq_true rfl, Nat.le_of_ble_eq_true rfl⟩ rfl (Nat.le_of_ble_eq_true rfl) dX6_parent_28 (fun r_28 J_28 h_28 => ?_)
      obtain ⟨rfl, rfl⟩ := h_28
      refine g_istore hX [(4, .int (sumB (fun r => bcnt (I (8 + i) r ^^^ I (8 + 0) r)) 200)), (3, .int 0), (2, .ref (ad (4 + i))), (0, .ref (ad 0)), (1, .int (nI i))] rfl dX6_parent_31 (by decide) ?_
      refine g_iconst hX (1) dX6_parent_33 rfl ?_
      refine g_istore hX [(5, .int 1), (4, .int (sumB (fun r => bcnt (I (8 + i) r ^^^ I (8 + 0) r)) 200)), (3, .int 0), (2, .ref (ad (4 + i))), (0, .ref (ad 0)), (1, .int (nI i))] rfl dX6_parent_34 (by decide) ?_
      have lp_36 : ∀ (n9 : Nat) (k : Nat) (b : Nat) (q : Int32), i - k < n9 → k ≤ i → pfl I i (i - 1) 1 0 (dis I i 0) = pfl I i (i - k) k b q → CG X D dT ad I [(5, .int (nI k)), (4, .int q), (3, .int (nI b)), (2, .ref (ad (4 + i))), (0, .ref (ad 0)), (1, .int (nI i))] (1 + k) (6 + 6 * k) 36 [] := by
        intro n9
        induction n9 with
        | zero => intro k b q h9; exact absurd h9 (Nat.not_lt_zero _)
        | succ n9 ih9 =>
          intro k b q h9 hk hs
          have ih_36 := ih9
          refine g_iload hX 0 rfl dX6_parent_36 ?_
          refine g_iload_n hX 5 rfl dX6_parent_38 rfl ?_
          refine g_icmp_ge (tgt := 74) hX dX6_parent_39 (by decide) (fun c_39 => ?_) (fun c_39 => ?_)
          · have c_39 : i ≤ k := (nI_leI (a := i) (b := k) (by omega) (by omega)).mp c_39
            refine g_iload_n hX 2 rfl dX6_parent_74 rfl ?_
            refine t_iret hX hE dX6_parent_75 (by omega) (by omega) ?_
            exact ⟨_, rfl, by simp only [kpa, hr9, c_7, i10, if_false], rfl, by rw [nI_clamp (by omega), hs, show i - k = 0 by omega]; rfl⟩
          · have c_39 : ¬ i ≤ k := fun h9 => c_39 ((nI_leI (a := i) (b := k) (by omega) (by omega)).mpr h9)
            refine g_aload_n hX 3 rfl dX6_parent_42 rfl ?_
            refine g_aload_n hX 4 rfl dX6_parent_43 rfl ?_
            refine g_iload hX 0 rfl dX6_parent_44 ?_
            refine ct_callQ_V hX hQ [.int (nI k)] 10 (by decide) rfl (by decide) rfl (k_X6_demandPaper I (nI k)) gX6_parent_X6_demandPaper rfl rfl rfl hd_X6_demandPaper ⟨Nat.le_of_ble_eq_true rfl, Nat.le_of_ble_eq_true rfl⟩ ⟨by simp only [rm_X6_parent]; omega, by simp only [rm_X6_parent]; omega⟩ (by omega) (by omega) (fun E h9 => absurd (h9.2.symm.trans (rp_in hnp (show k < np by have := rp_lt hnp hn4 hr9 (by omega); omega) (by omega))) (by decide)) rfl (Nat.le_of_ble_eq_true rfl) dX6_parent_46 (fun r_46 J_46 h_46 => ?_)
            obtain ⟨rfl, rfl, hi_46, rp_46⟩ := h_46
            refine g_stk (st2 := .ref (ad (4 + k)) :: [.ref (ad (4 + i))]) (by first | rfl | (rw [nI_clamp (by omega)]; rfl)) ?_
            refine c_callI_V hX [.ref (ad (4 + k))] 5 (by omega) (cK_p hi) (by decide) rfl (k_X1_countUnlike I i hi k (by omega)) gX6_parent_X1_countUnlike rfl rfl rfl hd_X1_countUnlike ⟨Nat.le_of_ble_eq_true rfl, Nat.le_of_ble_eq_true rfl⟩ ⟨by simp only [rm_X6_parent]; omega, by simp only [rm_X6_parent]; omega⟩ rfl (Nat.le_of_ble_eq_true rfl) dX6_parent_49 (fun r_49 J_49 h_49 => ?_)
            obtain ⟨rfl, rfl⟩ := h_49
            refine g_istore hX [(6, .int (sumB (fun r => bcnt (I (8 + i) r ^^^ I (8 + k) r)) 200)), (5, .int (nI k)), (4, .int q), (3, .int (nI b)), (2, .ref (ad (4 + i))), (0, .ref (ad 0)), (1, .int (nI i))] rfl dX6_parent_52 (by decide) ?_
            refine g_iload hX 0 rfl dX6_parent_54 ?_
            refine g_iload hX 2 rfl dX6_parent_56 ?_
            refine g_icmp_ge (tgt := 68) hX dX6_parent_58 (by decide) (fun c_58 => ?_) (fun c_58 => ?_)
            · refine g_iinc hX (nI (k + 1)) [(5, .int (nI (k + 1))), (6, .int (sumB (fun r => bcnt (I (8 + i) r ^^^ I (8 + k) r)) 200)), (4, .int q), (3, .int (nI b)), (2, .ref (ad (4 + i))), (0, .ref (ad 0)), (1, .int (nI i))] (k := 1) rfl (g_inc k) rfl dX6_parent_68 (by decide) ?_
              refine g_goto (tgt := 36) hX dX6_parent_71 (by decide) ?_
              refine g_lv [0, 2, 3, 4, 5, 6] rfl ?_
              refine g_widen (k := (1 + (k + 1))) (n := (6 + 6 * (k + 1))) (by omega) (by omega) ?_
              exact ih_36 (k + 1) b q (by omega) (by omega) (hs.trans (by rw [show i - k = (i - (k + 1)) + 1 by omega, pfl]; simp only [dis, c_58, if_true, if_false]))
            · refine g_iload hX 1 rfl dX6_parent_61 ?_
              refine g_istore_n hX [(3, .int (nI k)), (6, .int (sumB (fun r => bcnt (I (8 + i) r ^^^ I (8 + k) r)) 200)), (5, .int (nI k)), (4, .int q), (2, .ref (ad (4 + i))), (0, .ref (ad 0)), (1, .int (nI i))] rfl dX6_parent_63 rfl (by decide) ?_
              refine g_iload hX 1 rfl dX6_parent_64 ?_
              refine g_istore hX [(4, .int (sumB (fun r => bcnt (I (8 + i) r ^^^ I (8 + k) r)) 200)), (3, .int (nI k)), (6, .int (sumB (fun r => bcnt (I (8 + i) r ^^^ I (8 + k) r)) 200)), (5, .int (nI k)), (2, .ref (ad (4 + i))), (0, .ref (ad 0)), (1, .int (nI i))] rfl dX6_parent_66 (by decide) ?_
              refine g_iinc hX (nI (k + 1)) [(5, .int (nI (k + 1))), (4, .int (sumB (fun r => bcnt (I (8 + i) r ^^^ I (8 + k) r)) 200)), (3, .int (nI k)), (6, .int (sumB (fun r => bcnt (I (8 + i) r ^^^ I (8 + k) r)) 200)), (2, .ref (ad (4 + i))), (0, .ref (ad 0)), (1, .int (nI i))] (k := 3) rfl (g_inc k) rfl dX6_parent_68 (by decide) ?_
              refine g_goto (tgt := 36) hX dX6_parent_71 (by decide) ?_
              refine g_lv [0, 1, 2, 4, 5, 6] rfl ?_
              refine g_widen (k := (1 + (k + 1))) (n := (6 + 6 * (k + 1))) (by omega) (by omega) ?_
              exact ih_36 (k + 1) k (sumB (fun r => bcnt (I (8 + i) r ^^^ I (8 + k) r)) 200) (by omega) (by omega) (hs.trans (by rw [show i - k = (i - (k + 1)) + 1 by omega, pfl]; simp only [dis, c_58, if_true, if_false]))
      refine g_lv [0, 1, 2, 3, 4, 5] rfl ?_
      exact lp_36 _ 1 0 (sumB (fun r => bcnt (I (8 + i) r ^^^ I (8 + 0) r)) 200) (Nat.lt_succ_self _) (by have : i ≠ 0 := fun h => c_7 (by rw [h]; rfl); omega) rfl
    · refine t_throwS hX hQ (text := "no roll has a lower number") "java/util/NoSuchElementException" rfl (by decide +kernel) q_w1 q_w2 (by decide) q_hat104 hat_104 hgd_104 dX6_parent_10 dX6_parent_13 dX6_parent_14 dX6_parent_16 dX6_parent_19 (Nat.le_of_ble_eq_true rfl) (Nat.le_of_ble_eq_true rfl) (Nat.le_of_ble_eq_true rfl) (Nat.le_of_ble_eq_true rfl) (Nat.le_of_ble_eq_true rfl) (Nat.le_of_ble_eq_true rfl) ?_
      refine ⟨rfl, ?_⟩
      simp [kpa, hr9]; exact Or.inr c_7
abbrev rm_X6_note : Room := { frames := 7, cells := 5, slots := 30, locals := 104 }
theorem hd_X6_note : yX6_note.cls = RX6 ∧ yX6_note.cls ≠ "java/lang/invoke/MethodHandle" ∧ yX6_note.cls ≠ "java/lang/invoke/VarHandle" ∧ (parseMethodDescriptor yX6_note.desc).map (fun d => d.parameters.length) = some 3 := by decide +kernel
set_option maxRecDepth 100000 in
set_option maxHeartbeats 4000000 in
theorem k_X6_note {D : va_G} {dT : Nat → ClassId} {ad : Nat → Nat} (I : Nat → Nat → Int32) (c : Nat) (hc : I 2 3 = nI c) (h40 : c ≤ 40) (f l p : Int32) : KTI yX6_note wsX6_note rm_X6_note D dT ad I [.ref (ad 0), .int f, .int l, .int p] 5 30 (fun q J => kno I c f l p = 0 ∧ typ (up2 I 0 7 (-1)) c f l p = J ∧ nI c + 1 = q) (fun E => (E = xIA ∧ (kno I c f l p) = 1) ∨ (E = xUO ∧ (kno I c f l p) = 2) ∨ (E = xIS ∧ (kno I c f l p) = 3)) := by
  intro l9 hl9
  refine ti_of hl9 (own := RX6) (cc := cX6_note) (maxL := 4) (some .int) [(0, .ref (ad 0)), (1, .int f), (2, .int l), (3, .int p)] (by decide) rfl rfl rfl (Nat.le_of_ble_eq_true rfl) ?_
  intro X hX hE hN
  have hQ := FI.x hE
  have q_w5 : Cond.fieldLink RX6 18 "Perforatum" "music" "LPerforatum$Music;" ∈ wsX6_note := List.mem_of_getElem? (i := 5) rfl
  have q_inX6 : ∀ w ∈ wsX60, w ∈ wsX6_note := by decide +kernel
  have q_w6 : Cond.fieldLink RX6 48 "Perforatum" "arrangedRoll" "I" ∈ wsX6_note := List.mem_of_getElem? (i := 6) rfl
  have q_w3 : Cond.classLink RX6 120 "java/lang/IllegalStateException" ∈ wsX6_note := List.mem_of_getElem? (i := 3) rfl
  have q_w4 : Cond.initialized "java/lang/IllegalStateException" ∈ wsX6_note := List.mem_of_getElem? (i := 4) rfl
  have q_hat124 : ∀ w ∈ (vx_atS RX6 124 "java/lang/IllegalStateException" ["java/lang/RuntimeException", "java/lang/Exception"]).filter goodWord, w ∈ wsX6_note := by decide +kernel
  have q_w1 : Cond.classLink RX6 111 "java/lang/UnsupportedOperationException" ∈ wsX6_note := List.mem_of_getElem? (i := 1) rfl
  have q_w2 : Cond.initialized "java/lang/UnsupportedOperationException" ∈ wsX6_note := List.mem_of_getElem? (i := 2) rfl
  have q_hat115 : ∀ w ∈ (vx_atS RX6 115 "java/lang/UnsupportedOperationException" ["java/lang/RuntimeException", "java/lang/Exception"]).filter goodWord, w ∈ wsX6_note := by decide +kernel
  refine g_iload_n hX 1 rfl dX6_note_0 rfl ?_
  refine g_iconst hX (0) dX6_note_1 rfl ?_
  refine g_sipush hX (199) dX6_note_2 rfl ?_
  refine ct_callV_S hX hQ [.int f, .int 0, .int 199] (k_X6_demandWithin I f 0 199) gX6_note_X6_demandWithin rfl rfl rfl hd_X6_demandWithin.2 ⟨Nat.le_of_ble_eq_true rfl, Nat.le_of_ble_eq_true rfl⟩ ⟨Nat.le_of_ble_eq_true rfl, Nat.le_of_ble_eq_true rfl⟩ (Nat.le_of_ble_eq_true rfl) (Nat.le_of_ble_eq_true rfl) (fun E h9 => by obtain ⟨rfl, h9⟩ := h9; exact ⟨rfl, by simp [kno, h9]⟩) rfl (Nat.le_of_ble_eq_true rfl) dX6_note_5 (fun J_5 h_5 => ?_)
  obtain ⟨rfl, w_5⟩ := h_5
  refine g_iload_n hX 2 rfl dX6_note_8 rfl ?_
  refine g_iconst hX (1) dX6_note_9 rfl ?_
  refine g_bipush hX (60) dX6_note_10 rfl ?_
  refine ct_callV_S hX hQ [.int l, .int 1, .int 60] (k_X6_demandWithin I l 1 60) gX6_note_X6_demandWithin rfl rfl rfl hd_X6_demandWithin.2 ⟨Nat.le_of_ble_eq_true rfl, Nat.le_of_ble_eq_true rfl⟩ ⟨Nat.le_of_ble_eq_true rfl, Nat.le_of_ble_eq_true rfl⟩ (Nat.le_of_ble_eq_true rfl) (Nat.le_of_ble_eq_true rfl) (fun E h9 => by obtain ⟨rfl, h9⟩ := h9; exact ⟨rfl, by simp [kno, h9, w_5]⟩) rfl (Nat.le_of_ble_eq_true rfl) dX6_note_12 (fun J_12 h_12 => ?_)
  obtain ⟨rfl, w_12⟩ := h_12
  refine g_iload_n hX 3 rfl dX6_note_15 rfl ?_
  refine g_iconst hX (0) dX6_note_16 rfl ?_
  refine g_bipush hX (11) dX6_note_17 rfl ?_
  refine ct_callV_S hX hQ [.int p, .int 0, .int 11] (k_X6_demandWithin I p 0 11) gX6_note_X6_demandWithin rfl rfl rfl hd_X6_demandWithin.2 ⟨Nat.le_of_ble_eq_true rfl, Nat.le_of_ble_eq_true rfl⟩ ⟨Nat.le_of_ble_eq_true rfl, Nat.le_of_ble_eq_true rfl⟩ (Nat.le_of_ble_eq_true rfl) (Nat.le_of_ble_eq_true rfl) (fun E h9 => by obtain ⟨rfl, h9⟩ := h9; exact ⟨rfl, by simp [kno, h9, w_5, w_12]⟩) rfl (Nat.le_of_ble_eq_true rfl) dX6_note_19 (fun J_19 h_19 => ?_)
  obtain ⟨rfl, w_19⟩ := h_19
  refine g_iload_n hX 1 rfl dX6_note_22 rfl ?_
  refine g_iload_n hX 2 rfl dX6_note_23 rfl ?_
  refine g_iadd hX dX6_note_24 ?_
  refine g_iconst hX (1) dX6_note_25 rfl ?_
  refine g_isub hX dX6_note_26 ?_
  refine g_iconst hX (0) dX6_note_27 rfl ?_
  refine g_sipush hX (199) dX6_note_28 rfl ?_
  refine ct_callV_S hX hQ [.int ((f + l) - 1), .int 0, .int 199] (k_X6_demandWithin I ((f + l) - 1) 0 199) gX6_note_X6_demandWithin rfl rfl rfl hd_X6_demandWithin.2 ⟨Nat.le_of_ble_eq_true rfl, Nat.le_of_ble_eq_true rfl⟩ ⟨Nat.le_of_ble_eq_true rfl, Nat.le_of_ble_eq_true rfl⟩ (Nat.le_of_ble_eq_true rfl) (Nat.le_of_ble_eq_true rfl) (fun E h9 => by obtain ⟨rfl, h9⟩ := h9; exact ⟨rfl, by simp [kno, h9, w_5, w_12, w_19]⟩) rfl (Nat.le_of_ble_eq_true rfl) dX6_note_31 (fun J_31 h_31 => ?_)
  obtain ⟨rfl, w_31⟩ := h_31
  refine g_aload_n hX 0 rfl dX6_note_34 rfl ?_
  refine cg_X6_music hX (by decide) rfl q_inX6 q_w5 rfl dX6_note_35 ?_
  refine g_iload_n hX 1 rfl dX6_note_38 rfl ?_
  refine g_iload_n hX 2 rfl dX6_note_39 rfl ?_
  refine g_iload_n hX 3 rfl dX6_note_40 rfl ?_
  refine c_callI_V hX [.int f, .int l, .int p] 4 (by decide) rfl (by decide) rfl (k_X0_isTooNear I c hc h40 f l p) gX6_note_X0_isTooNear rfl rfl rfl hd_X0_isTooNear ⟨Nat.le_of_ble_eq_true rfl, Nat.le_of_ble_eq_true rfl⟩ ⟨Nat.le_of_ble_eq_true rfl, Nat.le_of_ble_eq_true rfl⟩ rfl (Nat.le_of_ble_eq_true rfl) dX6_note_41 (fun r_41 J_41 h_41 => ?_)
  obtain ⟨rfl, rfl⟩ := h_41
  refine g_if_eq (tgt := 57) hX dX6_note_44 (by decide) (fun c_44 => ?_) (fun c_44 => ?_)
  · refine g_aload_n hX 0 rfl dX6_note_57 rfl ?_
    refine cg_X6_music hX (by decide) rfl q_inX6 q_w5 rfl dX6_note_58 ?_
    refine c_callI_V hX [] 4 (by decide) rfl (by decide) rfl (k_X0_isFull I c hc h40) gX6_note_X0_isFull rfl rfl rfl hd_X0_isFull ⟨Nat.le_of_ble_eq_true rfl, Nat.le_of_ble_eq_true rfl⟩ ⟨Nat.le_of_ble_eq_true rfl, Nat.le_of_ble_eq_true rfl⟩ rfl (Nat.le_of_ble_eq_true rfl) dX6_note_61 (fun r_61 J_61 h_61 => ?_)
    obtain ⟨rfl, rfl⟩ := h_61
    refine g_if_eq (tgt := 77) hX dX6_note_64 (by decide) (fun c_64 => ?_) (fun c_64 => ?_)
    · refine g_aload_n hX 0 rfl dX6_note_77 rfl ?_
      refine g_iconst hX (-1) dX6_note_78 rfl ?_
      refine cp_X6_arrangedRoll hX (by decide) rfl q_inX6 q_w6 dX6_note_79 ?_
      refine g_aload_n hX 0 rfl dX6_note_82 rfl ?_
      refine cg_X6_music hX (by decide) rfl q_inX6 q_w5 rfl dX6_note_83 ?_
      refine g_iload_n hX 1 rfl dX6_note_86 rfl ?_
      refine g_iload_n hX 2 rfl dX6_note_87 rfl ?_
      refine g_iload_n hX 3 rfl dX6_note_88 rfl ?_
      refine c_callI_V hX [.int f, .int l, .int p] 4 (by decide) rfl (by decide) rfl (k_X0_type (up2 I 0 7 (-1)) c (by rw [up2_row (by decide)]; exact hc) (by by_cases h : c < 40 <;> simp only [h, if_true, if_false, i10] at c_64; exact h) f l p) gX6_note_X0_type rfl rfl rfl hd_X0_type ⟨Nat.le_of_ble_eq_true rfl, Nat.le_of_ble_eq_true rfl⟩ ⟨Nat.le_of_ble_eq_true rfl, Nat.le_of_ble_eq_true rfl⟩ rfl (Nat.le_of_ble_eq_true rfl) dX6_note_89 (fun r_89 J_89 h_89 => ?_)
      obtain ⟨rfl, rfl⟩ := h_89
      refine t_iret hX hE dX6_note_92 (Nat.le_of_ble_eq_true rfl) (Nat.le_of_ble_eq_true rfl) ?_
      exact ⟨_, rfl, by by_cases h : c < 40 <;> simp only [h, if_true, if_false, i10] at c_64; simp [kno, h, c_44, w_5, w_12, w_19, w_31], rfl, rfl⟩
    · refine t_throwS hX hQ (text := "40 notes are typed already") "java/lang/IllegalStateException" rfl (by decide +kernel) q_w3 q_w4 (by decide) q_hat124 hat_124 hgd_124 dX6_note_67 dX6_note_70 dX6_note_71 dX6_note_73 dX6_note_76 (Nat.le_of_ble_eq_true rfl) (Nat.le_of_ble_eq_true rfl) (Nat.le_of_ble_eq_true rfl) (Nat.le_of_ble_eq_true rfl) (Nat.le_of_ble_eq_true rfl) (Nat.le_of_ble_eq_true rfl) ?_
      refine ⟨rfl, ?_⟩
      by_cases h : c < 40 <;> simp only [h, if_true, if_false, i10] at c_64 <;> simp [kno, h, c_44, w_5, w_12, w_19, w_31]
  · refine t_throwS hX hQ (text := "too near to another note of its pitch") "java/lang/UnsupportedOperationException" rfl (by decide +kernel) q_w1 q_w2 (by decide) q_hat115 hat_115 hgd_115 dX6_note_47 dX6_note_50 dX6_note_51 dX6_note_53 dX6_note_56 (Nat.le_of_ble_eq_true rfl) (Nat.le_of_ble_eq_true rfl) (Nat.le_of_ble_eq_true rfl) (Nat.le_of_ble_eq_true rfl) (Nat.le_of_ble_eq_true rfl) (Nat.le_of_ble_eq_true rfl) ?_
    refine ⟨rfl, ?_⟩
    simp [kno, w_5, w_12, w_19, w_31, c_44]
abbrev rm_X6_isMusic : Room := { frames := 7, cells := 1, slots := 6, locals := 103 }
theorem hd_X6_isMusic : yX6_isMusic.cls = RX6 ∧ yX6_isMusic.cls ≠ "java/lang/invoke/MethodHandle" ∧ yX6_isMusic.cls ≠ "java/lang/invoke/VarHandle" ∧ (parseMethodDescriptor yX6_isMusic.desc).map (fun d => d.parameters.length) = some 1 := by decide +kernel
set_option maxRecDepth 100000 in
set_option maxHeartbeats 4000000 in
theorem k_X6_isMusic {D : va_G} {dT : Nat → ClassId} {ad : Nat → Nat} (I : Nat → Nat → Int32) (c : Nat) (hc : I 2 3 = nI c) (h40 : c ≤ 40) (fa : Nat → Nat) (hfa : ∀ n, n < c → I 12 n = nI (fa n) ∧ fa n < 200) (r : Int32) : KTI yX6_isMusic wsX6_isMusic rm_X6_isMusic D dT ad I [.ref (ad 0), .int r] 1 6 (fun q J => kr1 I r = 0 ∧ I = J ∧ iscn I r.toNatClampNeg c fa = q) (fun E => (E = xIO ∧ (kr1 I r) = 1)) := by
  intro l9 hl9
  refine ti_of hl9 (own := RX6) (cc := cX6_isMusic) (maxL := 2) (some .boolean) [(0, .ref (ad 0)), (1, .int r)] (by decide) rfl rfl rfl (Nat.le_of_ble_eq_true rfl) ?_
  intro X hX hE hN
  have hQ := FI.x hE
  have q_w1 : Cond.fieldLink RX6 18 "Perforatum" "music" "LPerforatum$Music;" ∈ wsX6_isMusic := List.mem_of_getElem? (i := 1) rfl
  have q_inX6 : ∀ w ∈ wsX60, w ∈ wsX6_isMusic := by decide +kernel
  refine g_aload_n hX 0 rfl dX6_isMusic_0 rfl ?_
  refine cg_X6_music hX (by decide) rfl q_inX6 q_w1 rfl dX6_isMusic_1 ?_
  refine g_aload_n hX 0 rfl dX6_isMusic_4 rfl ?_
  refine g_iload_n hX 1 rfl dX6_isMusic_5 rfl ?_
  refine ct_callQ_V hX hQ [.int r] 10 (by decide) rfl (by decide) rfl (k_X6_demandPaper I r) gX6_isMusic_X6_demandPaper rfl rfl rfl hd_X6_demandPaper ⟨Nat.le_of_ble_eq_true rfl, Nat.le_of_ble_eq_true rfl⟩ ⟨Nat.le_of_ble_eq_true rfl, Nat.le_of_ble_eq_true rfl⟩ (Nat.le_of_ble_eq_true rfl) (Nat.le_of_ble_eq_true rfl) (fun E h9 => by obtain ⟨rfl, h9⟩ := h9; exact ⟨rfl, by simp [kr1, h9]⟩) rfl (Nat.le_of_ble_eq_true rfl) dX6_isMusic_6 (fun r_6 J_6 h_6 => ?_)
  obtain ⟨rfl, rfl, hi_6, rp_6⟩ := h_6
  refine g_stk (st2 := .ref (ad (4 + r.toNatClampNeg)) :: [.ref (ad 2)]) rfl ?_
  refine c_callI_V hX [.ref (ad (4 + r.toNatClampNeg))] 4 (by decide) rfl (by decide) rfl (k_X0_isScannedFrom I r.toNatClampNeg hi_6 c hc h40 fa hfa) gX6_isMusic_X0_isScannedFrom rfl rfl rfl hd_X0_isScannedFrom ⟨Nat.le_of_ble_eq_true rfl, Nat.le_of_ble_eq_true rfl⟩ ⟨Nat.le_of_ble_eq_true rfl, Nat.le_of_ble_eq_true rfl⟩ rfl (Nat.le_of_ble_eq_true rfl) dX6_isMusic_9 (fun r_9 J_9 h_9 => ?_)
  obtain ⟨rfl, rfl⟩ := h_9
  refine t_zret hX (nz_iscn _ _ _ _) hE dX6_isMusic_12 (Nat.le_of_ble_eq_true rfl) (Nat.le_of_ble_eq_true rfl) ?_
  exact ⟨_, rfl, by simp [kr1, rp_6], rfl, rfl⟩
abbrev rm_X6_wipe : Room := { frames := 1, cells := 0, slots := 0, locals := 21 }
theorem hd_X6_wipe : yX6_wipe.cls = RX6 ∧ yX6_wipe.cls ≠ "java/lang/invoke/MethodHandle" ∧ yX6_wipe.cls ≠ "java/lang/invoke/VarHandle" ∧ (parseMethodDescriptor yX6_wipe.desc).map (fun d => d.parameters.length) = some 0 := by decide +kernel
set_option maxRecDepth 100000 in
set_option maxHeartbeats 4000000 in
theorem k_X6_wipe {D : va_G} {dT : Nat → ClassId} {ad : Nat → Nat} (I : Nat → Nat → Int32) : KI yX6_wipe wsX6_wipe rm_X6_wipe D dT ad I [.ref (ad 0)] (fun q J => up2 (up2 I 0 7 (-1)) 2 3 0 = J ∧ I 2 3 = q) := by
  intro l9
  refine ci_of (own := RX6) (cc := cX6_wipe) (maxL := 1) (some .int) [(0, .ref (ad 0))] (by decide) rfl rfl rfl (Nat.le_of_ble_eq_true rfl) ?_
  intro X hX hE hN
  have q_w1 : Cond.fieldLink RX6 48 "Perforatum" "arrangedRoll" "I" ∈ wsX6_wipe := List.mem_of_getElem? (i := 1) rfl
  have q_inX6 : ∀ w ∈ wsX60, w ∈ wsX6_wipe := by decide +kernel
  have q_w2 : Cond.fieldLink RX6 18 "Perforatum" "music" "LPerforatum$Music;" ∈ wsX6_wipe := List.mem_of_getElem? (i := 2) rfl
  refine g_aload_n hX 0 rfl dX6_wipe_0 rfl ?_
  refine g_iconst hX (-1) dX6_wipe_1 rfl ?_
  refine cp_X6_arrangedRoll hX (by decide) rfl q_inX6 q_w1 dX6_wipe_2 ?_
  refine g_aload_n hX 0 rfl dX6_wipe_5 rfl ?_
  refine cg_X6_music hX (by decide) rfl q_inX6 q_w2 rfl dX6_wipe_6 ?_
  refine c_callI_V hX [] 4 (by decide) rfl (by decide) rfl (k_X0_forgetAll (up2 I 0 7 (-1)) ) gX6_wipe_X0_forgetAll rfl rfl rfl hd_X0_forgetAll ⟨Nat.le_of_ble_eq_true rfl, Nat.le_of_ble_eq_true rfl⟩ ⟨Nat.zero_le _, Nat.zero_le _⟩ rfl (Nat.le_of_ble_eq_true rfl) dX6_wipe_9 (fun r_9 J_9 h_9 => ?_)
  obtain ⟨rfl, rfl⟩ := h_9
  refine g_iret hX hE dX6_wipe_12 (by omega) (by omega) ?_
  exact ⟨_, rfl, rfl, by rw [up2_row (by decide)]⟩
abbrev rm_X6_arrange : Room := { frames := 7, cells := 1, slots := 6, locals := 103 }
theorem hd_X6_arrange : yX6_arrange.cls = RX6 ∧ yX6_arrange.cls ≠ "java/lang/invoke/MethodHandle" ∧ yX6_arrange.cls ≠ "java/lang/invoke/VarHandle" ∧ (parseMethodDescriptor yX6_arrange.desc).map (fun d => d.parameters.length) = some 2 := by decide +kernel
set_option maxRecDepth 100000 in
set_option maxHeartbeats 4000000 in
theorem k_X6_arrange {D : va_G} {dT : Nat → ClassId} {ad : Nat → Nat} (I : Nat → Nat → Int32) (c : Nat) (hc : I 2 3 = nI c) (h40 : c ≤ 40) (ln : Nat → Nat) (hln : ∀ n, n < c → I 13 n = nI (ln n) ∧ ln n ≤ 200) (r br : Int32) : KTI yX6_arrange wsX6_arrange rm_X6_arrange D dT ad I [.ref (ad 0), .int r, .int br] 1 6 (fun q J => kr1 I r = 0 ∧ arr1 I r br ln c = J ∧ sumB (fun q => bcnt (arr1 I r br ln c (8 + r.toNatClampNeg) q &&& 4095)) 200 = q) (fun E => (E = xIO ∧ (kr1 I r) = 1)) := by
  intro l9 hl9
  refine ti_of hl9 (own := RX6) (cc := cX6_arrange) (maxL := 4) (some .int) [(0, .ref (ad 0)), (1, .int r), (2, .int br)] (by decide) rfl rfl rfl (Nat.le_of_ble_eq_true rfl) ?_
  intro X hX hE hN
  have hQ := FI.x hE
  have q_w1 : Cond.fieldLink RX6 18 "Perforatum" "music" "LPerforatum$Music;" ∈ wsX6_arrange := List.mem_of_getElem? (i := 1) rfl
  have q_inX6 : ∀ w ∈ wsX60, w ∈ wsX6_arrange := by decide +kernel
  have q_w2 : Cond.fieldLink RX6 48 "Perforatum" "arrangedRoll" "I" ∈ wsX6_arrange := List.mem_of_getElem? (i := 2) rfl
  refine g_aload_n hX 0 rfl dX6_arrange_0 rfl ?_
  refine g_iload_n hX 1 rfl dX6_arrange_1 rfl ?_
  refine ct_callQ_V hX hQ [.int r] 10 (by decide) rfl (by decide) rfl (k_X6_demandPaper I r) gX6_arrange_X6_demandPaper rfl rfl rfl hd_X6_demandPaper ⟨Nat.le_of_ble_eq_true rfl, Nat.le_of_ble_eq_true rfl⟩ ⟨Nat.le_of_ble_eq_true rfl, Nat.le_of_ble_eq_true rfl⟩ (Nat.le_of_ble_eq_true rfl) (Nat.le_of_ble_eq_true rfl) (fun E h9 => by obtain ⟨rfl, h9⟩ := h9; exact ⟨rfl, by simp [kr1, h9]⟩) rfl (Nat.le_of_ble_eq_true rfl) dX6_arrange_2 (fun r_2 J_2 h_2 => ?_)
  obtain ⟨rfl, rfl, hi_2, rp_2⟩ := h_2
  refine g_stk (st2 := .ref (ad (4 + r.toNatClampNeg)) :: []) rfl ?_
  refine g_astore_n hX [(3, .ref (ad (4 + r.toNatClampNeg))), (0, .ref (ad 0)), (1, .int r), (2, .int br)] rfl dX6_arrange_5 rfl (by decide) ?_
  refine g_aload_n hX 0 rfl dX6_arrange_6 rfl ?_
  refine c_callV_V hX [] 5 (by omega) (cK_p hi_2) (by decide) rfl (k_X1_mendPitches I r.toNatClampNeg hi_2) gX6_arrange_X1_mendPitches rfl rfl rfl hd_X1_mendPitches ⟨Nat.le_of_ble_eq_true rfl, Nat.le_of_ble_eq_true rfl⟩ ⟨Nat.le_of_ble_eq_true rfl, Nat.le_of_ble_eq_true rfl⟩ rfl (Nat.le_of_ble_eq_true rfl) dX6_arrange_7 (fun J_7 h_7 => ?_)
  subst h_7
  refine g_aload_n hX 1 rfl dX6_arrange_10 rfl ?_
  refine cg_X6_music hX (by decide) rfl q_inX6 q_w1 rfl dX6_arrange_11 ?_
  refine g_aload_n hX 0 rfl dX6_arrange_14 rfl ?_
  refine g_iload_n hX 3 rfl dX6_arrange_15 rfl ?_
  refine c_callV_V hX [.ref (ad (4 + r.toNatClampNeg)), .int br] 4 (by decide) rfl (by decide) rfl (k_X0_punchInto (upr I (8 + r.toNatClampNeg) (fun r => if r < 200 then I (8 + r.toNatClampNeg) r &&& (-4096) else I (8 + r.toNatClampNeg) r)) r.toNatClampNeg hi_2 c (by rw [upr_n (by omega)]; exact hc) h40 ln (fun n hn => by rw [upr_n (by omega)]; exact hln n hn) br) gX6_arrange_X0_punchInto rfl rfl rfl hd_X0_punchInto ⟨Nat.le_of_ble_eq_true rfl, Nat.le_of_ble_eq_true rfl⟩ ⟨Nat.le_of_ble_eq_true rfl, Nat.le_of_ble_eq_true rfl⟩ rfl (Nat.le_of_ble_eq_true rfl) dX6_arrange_16 (fun J_16 h_16 => ?_)
  subst h_16
  refine g_aload_n hX 1 rfl dX6_arrange_19 rfl ?_
  refine g_iload_n hX 2 rfl dX6_arrange_20 rfl ?_
  refine cp_X6_arrangedRoll hX (by decide) rfl q_inX6 q_w2 dX6_arrange_21 ?_
  refine c_I (J := arr1 I r br ln c) rfl ?_
  refine g_aload_n hX 0 rfl dX6_arrange_24 rfl ?_
  refine g_sipush hX (4095) dX6_arrange_25 rfl ?_
  refine c_callI_V hX [.int 4095] 5 (by omega) (cK_p hi_2) (by decide) rfl (k_X1_countHoles (arr1 I r br ln c) r.toNatClampNeg hi_2 4095) gX6_arrange_X1_countHoles rfl rfl rfl hd_X1_countHoles ⟨Nat.le_of_ble_eq_true rfl, Nat.le_of_ble_eq_true rfl⟩ ⟨Nat.le_of_ble_eq_true rfl, Nat.le_of_ble_eq_true rfl⟩ rfl (Nat.le_of_ble_eq_true rfl) dX6_arrange_28 (fun r_28 J_28 h_28 => ?_)
  obtain ⟨rfl, rfl⟩ := h_28
  refine t_iret hX hE dX6_arrange_31 (Nat.le_of_ble_eq_true rfl) (Nat.le_of_ble_eq_true rfl) ?_
  exact ⟨_, rfl, by simp [kr1, rp_2], rfl, rfl⟩
abbrev rm_X6_scan : Room := { frames := 7, cells := 2, slots := 12, locals := 103 }
theorem hd_X6_scan : yX6_scan.cls = RX6 ∧ yX6_scan.cls ≠ "java/lang/invoke/MethodHandle" ∧ yX6_scan.cls ≠ "java/lang/invoke/VarHandle" ∧ (parseMethodDescriptor yX6_scan.desc).map (fun d => d.parameters.length) = some 3 := by decide +kernel
set_option maxRecDepth 100000 in
set_option maxHeartbeats 4000000 in
theorem k_X6_scan {D : va_G} {dT : Nat → ClassId} {ad : Nat → Nat} (I : Nat → Nat → Int32) (r x w : Int32) : KTI yX6_scan wsX6_scan rm_X6_scan D dT ad I [.ref (ad 0), .int r, .int x, .int w] 2 12 (fun q J => ksc I r x w = 0 ∧ I = J ∧ scv I r x w = q) (fun E => (E = xIO ∧ (ksc I r x w) = 1) ∨ (E = xIA ∧ (ksc I r x w) = 2) ∨ (E = xNS ∧ (ksc I r x w) = 3)) := by
  intro l9 hl9
  refine ti_of hl9 (own := RX6) (cc := cX6_scan) (maxL := 8) (some .int) [(0, .ref (ad 0)), (1, .int r), (2, .int x), (3, .int w)] (by decide) rfl rfl rfl (Nat.le_of_ble_eq_true rfl) ?_
  intro X hX hE hN
  have hQ := FI.x hE
  have q_w3 : Cond.classLink RX6 100 "java/util/NoSuchElementException" ∈ wsX6_scan := List.mem_of_getElem? (i := 3) rfl
  have q_w4 : Cond.initialized "java/util/NoSuchElementException" ∈ wsX6_scan := List.mem_of_getElem? (i := 4) rfl
  have q_hat104 : ∀ w ∈ (vx_atS RX6 104 "java/util/NoSuchElementException" ["java/lang/RuntimeException", "java/lang/Exception"]).filter goodWord, w ∈ wsX6_scan := by decide +kernel
  have q_w1 : Cond.classLink RX6 142 "java/lang/IllegalArgumentException" ∈ wsX6_scan := List.mem_of_getElem? (i := 1) rfl
  have q_w2 : Cond.initialized "java/lang/IllegalArgumentException" ∈ wsX6_scan := List.mem_of_getElem? (i := 2) rfl
  have q_hat146 : ∀ w ∈ (vx_atS RX6 146 "java/lang/IllegalArgumentException" ["java/lang/RuntimeException", "java/lang/Exception"]).filter goodWord, w ∈ wsX6_scan := by decide +kernel
  refine g_aload_n hX 0 rfl dX6_scan_0 rfl ?_
  refine g_iload_n hX 1 rfl dX6_scan_1 rfl ?_
  refine ct_callQ_V hX hQ [.int r] 10 (by decide) rfl (by decide) rfl (k_X6_demandPaper I r) gX6_scan_X6_demandPaper rfl rfl rfl hd_X6_demandPaper ⟨Nat.le_of_ble_eq_true rfl, Nat.le_of_ble_eq_true rfl⟩ ⟨Nat.le_of_ble_eq_true rfl, Nat.le_of_ble_eq_true rfl⟩ (Nat.le_of_ble_eq_true rfl) (Nat.le_of_ble_eq_true rfl) (fun E h9 => by obtain ⟨rfl, h9⟩ := h9; exact ⟨rfl, by simp [ksc, h9]⟩) rfl (Nat.le_of_ble_eq_true rfl) dX6_scan_2 (fun r_2 J_2 h_2 => ?_)
  obtain ⟨rfl, rfl, hi_2, rp_2⟩ := h_2
  refine g_stk (st2 := .ref (ad (4 + r.toNatClampNeg)) :: []) rfl ?_
  refine g_astore hX [(4, .ref (ad (4 + r.toNatClampNeg))), (0, .ref (ad 0)), (1, .int r), (2, .int x), (3, .int w)] rfl dX6_scan_5 (by decide) ?_
  refine g_iload_n hX 4 rfl dX6_scan_7 rfl ?_
  refine g_bipush hX (102) dX6_scan_8 rfl ?_
  refine g_icmp_eq (tgt := 35) hX dX6_scan_10 (by decide) (fun c_10 => ?_) (fun c_10 => ?_)
  · refine g_aload hX 0 rfl dX6_scan_35 ?_
    refine g_iload_n hX 3 rfl dX6_scan_37 rfl ?_
    refine c_callI_V hX [.int x] 5 (by omega) (cK_p hi_2) (by decide) rfl (k_X1_findNote I r.toNatClampNeg hi_2 x) gX6_scan_X1_findNote rfl rfl rfl hd_X1_findNote ⟨Nat.le_of_ble_eq_true rfl, Nat.le_of_ble_eq_true rfl⟩ ⟨Nat.le_of_ble_eq_true rfl, Nat.le_of_ble_eq_true rfl⟩ rfl (Nat.le_of_ble_eq_true rfl) dX6_scan_38 (fun r_38 J_38 h_38 => ?_)
    obtain ⟨rfl, rfl⟩ := h_38
    refine g_istore hX [(5, .int (fnote I r.toNatClampNeg x)), (4, .ref (ad (4 + r.toNatClampNeg))), (0, .ref (ad 0)), (1, .int r), (2, .int x), (3, .int w)] rfl dX6_scan_41 (by decide) ?_
    refine g_iload hX 0 rfl dX6_scan_43 ?_
    refine g_iconst hX (-1) dX6_scan_45 rfl ?_
    refine g_icmp_ne (tgt := 59) hX dX6_scan_46 (by decide) (fun c_46 => ?_) (fun c_46 => ?_)
    · obtain ⟨sa, sb, hsa, hsb, hse⟩ := fnote_form c_46
      refine g_iload hX 0 rfl dX6_scan_59 ?_
      refine g_bipush hX (16) dX6_scan_61 rfl ?_
      refine g_idiv hX dX6_scan_63 (by decide) ?_
      refine g_eqi (y := nI sa) (by rw [hse]; exact d16 hsa hsb) ?_
      refine g_istore hX [(6, .int (nI sa)), (5, .int (fnote I r.toNatClampNeg x)), (4, .ref (ad (4 + r.toNatClampNeg))), (0, .ref (ad 0)), (1, .int r), (2, .int x), (3, .int w)] rfl dX6_scan_64 (by decide) ?_
      refine g_iload hX 1 rfl dX6_scan_66 ?_
      refine g_bipush hX (16) dX6_scan_68 rfl ?_
      refine g_irem hX dX6_scan_70 (by decide) ?_
      refine g_eqi (y := nI sb) (by rw [hse]; exact r16 hsa hsb) ?_
      refine g_istore hX [(7, .int (nI sb)), (6, .int (nI sa)), (5, .int (fnote I r.toNatClampNeg x)), (4, .ref (ad (4 + r.toNatClampNeg))), (0, .ref (ad 0)), (1, .int r), (2, .int x), (3, .int w)] rfl dX6_scan_71 (by decide) ?_
      refine g_iload_n hX 7 rfl dX6_scan_73 rfl ?_
      refine g_bipush hX (102) dX6_scan_74 rfl ?_
      refine g_icmp_ne (tgt := 82) hX dX6_scan_76 (by decide) (fun c_76 => ?_) (fun c_76 => ?_)
      · refine g_iload_n hX 7 rfl dX6_scan_82 rfl ?_
        refine g_bipush hX (112) dX6_scan_83 rfl ?_
        refine g_icmp_ne (tgt := 93) hX dX6_scan_85 (by decide) (fun c_85 => ?_) (fun c_85 => ?_)
        · refine g_aload hX 3 rfl dX6_scan_93 ?_
          refine g_iload hX 1 rfl dX6_scan_95 ?_
          refine g_iload hX 0 rfl dX6_scan_97 ?_
          refine c_callI_V hX [.int (nI sa), .int (nI sb)] 5 (by omega) (cK_p hi_2) (by decide) rfl (k_X1_measureNote I r.toNatClampNeg hi_2 sa hsa (nI sb)) gX6_scan_X1_measureNote rfl rfl rfl hd_X1_measureNote ⟨Nat.le_of_ble_eq_true rfl, Nat.le_of_ble_eq_true rfl⟩ ⟨Nat.le_of_ble_eq_true rfl, Nat.le_of_ble_eq_true rfl⟩ rfl (Nat.le_of_ble_eq_true rfl) dX6_scan_99 (fun r_99 J_99 h_99 => ?_)
          obtain ⟨rfl, rfl⟩ := h_99
          refine t_iret hX hE dX6_scan_102 (Nat.le_of_ble_eq_true rfl) (Nat.le_of_ble_eq_true rfl) ?_
          have hw3 : w = 102 ∨ w = 108 ∨ w = 112 := Or.inl c_10
          exact ⟨_, rfl, by simp only [ksc, rp_2, i10, hw3, c_46, if_true, if_false], rfl, by rw [scv, if_neg c_76, if_neg c_85, hse, d16 hsa hsb, r16 hsa hsb, nI_clamp (by omega)]⟩
        · refine g_iload hX 0 rfl dX6_scan_88 ?_
          refine g_goto (tgt := 102) hX dX6_scan_90 (by decide) ?_
          refine t_iret hX hE dX6_scan_102 (Nat.le_of_ble_eq_true rfl) (Nat.le_of_ble_eq_true rfl) ?_
          have hw3 : w = 102 ∨ w = 108 ∨ w = 112 := Or.inl c_10
          exact ⟨_, rfl, by simp only [ksc, rp_2, i10, hw3, c_46, if_true, if_false], rfl, by rw [scv, if_neg c_76, if_pos c_85, hse, r16 hsa hsb]⟩
      · refine g_iload hX 1 rfl dX6_scan_79 ?_
        refine t_iret hX hE dX6_scan_81 (Nat.le_of_ble_eq_true rfl) (Nat.le_of_ble_eq_true rfl) ?_
        have hw3 : w = 102 ∨ w = 108 ∨ w = 112 := Or.inl c_10
        exact ⟨_, rfl, by simp only [ksc, rp_2, i10, hw3, c_46, if_true, if_false], rfl, by rw [scv, if_pos c_76, hse, d16 hsa hsb]⟩
    · refine t_throwS hX hQ (text := "no such note") "java/util/NoSuchElementException" rfl (by decide +kernel) q_w3 q_w4 (by decide) q_hat104 hat_104 hgd_104 dX6_scan_49 dX6_scan_52 dX6_scan_53 dX6_scan_55 dX6_scan_58 (Nat.le_of_ble_eq_true rfl) (Nat.le_of_ble_eq_true rfl) (Nat.le_of_ble_eq_true rfl) (Nat.le_of_ble_eq_true rfl) (Nat.le_of_ble_eq_true rfl) (Nat.le_of_ble_eq_true rfl) ?_
      refine ⟨rfl, ?_⟩
      have hw3 : w = 102 ∨ w = 108 ∨ w = 112 := Or.inl c_10
      exact Or.inr (Or.inr ⟨rfl, by simp only [ksc, rp_2, i10, hw3, c_46, if_true, if_false]⟩)
  · refine g_iload_n hX 4 rfl dX6_scan_13 rfl ?_
    refine g_bipush hX (108) dX6_scan_14 rfl ?_
    refine g_icmp_eq (tgt := 35) hX dX6_scan_16 (by decide) (fun c_16 => ?_) (fun c_16 => ?_)
    · refine g_aload hX 0 rfl dX6_scan_35 ?_
      refine g_iload_n hX 3 rfl dX6_scan_37 rfl ?_
      refine c_callI_V hX [.int x] 5 (by omega) (cK_p hi_2) (by decide) rfl (k_X1_findNote I r.toNatClampNeg hi_2 x) gX6_scan_X1_findNote rfl rfl rfl hd_X1_findNote ⟨Nat.le_of_ble_eq_true rfl, Nat.le_of_ble_eq_true rfl⟩ ⟨Nat.le_of_ble_eq_true rfl, Nat.le_of_ble_eq_true rfl⟩ rfl (Nat.le_of_ble_eq_true rfl) dX6_scan_38 (fun r_38 J_38 h_38 => ?_)
      obtain ⟨rfl, rfl⟩ := h_38
      refine g_istore hX [(5, .int (fnote I r.toNatClampNeg x)), (4, .ref (ad (4 + r.toNatClampNeg))), (0, .ref (ad 0)), (1, .int r), (2, .int x), (3, .int w)] rfl dX6_scan_41 (by decide) ?_
      refine g_iload hX 0 rfl dX6_scan_43 ?_
      refine g_iconst hX (-1) dX6_scan_45 rfl ?_
      refine g_icmp_ne (tgt := 59) hX dX6_scan_46 (by decide) (fun c_46 => ?_) (fun c_46 => ?_)
      · obtain ⟨sa, sb, hsa, hsb, hse⟩ := fnote_form c_46
        refine g_iload hX 0 rfl dX6_scan_59 ?_
        refine g_bipush hX (16) dX6_scan_61 rfl ?_
        refine g_idiv hX dX6_scan_63 (by decide) ?_
        refine g_eqi (y := nI sa) (by rw [hse]; exact d16 hsa hsb) ?_
        refine g_istore hX [(6, .int (nI sa)), (5, .int (fnote I r.toNatClampNeg x)), (4, .ref (ad (4 + r.toNatClampNeg))), (0, .ref (ad 0)), (1, .int r), (2, .int x), (3, .int w)] rfl dX6_scan_64 (by decide) ?_
        refine g_iload hX 1 rfl dX6_scan_66 ?_
        refine g_bipush hX (16) dX6_scan_68 rfl ?_
        refine g_irem hX dX6_scan_70 (by decide) ?_
        refine g_eqi (y := nI sb) (by rw [hse]; exact r16 hsa hsb) ?_
        refine g_istore hX [(7, .int (nI sb)), (6, .int (nI sa)), (5, .int (fnote I r.toNatClampNeg x)), (4, .ref (ad (4 + r.toNatClampNeg))), (0, .ref (ad 0)), (1, .int r), (2, .int x), (3, .int w)] rfl dX6_scan_71 (by decide) ?_
        refine g_iload_n hX 7 rfl dX6_scan_73 rfl ?_
        refine g_bipush hX (102) dX6_scan_74 rfl ?_
        refine g_icmp_ne (tgt := 82) hX dX6_scan_76 (by decide) (fun c_76 => ?_) (fun c_76 => ?_)
        · refine g_iload_n hX 7 rfl dX6_scan_82 rfl ?_
          refine g_bipush hX (112) dX6_scan_83 rfl ?_
          refine g_icmp_ne (tgt := 93) hX dX6_scan_85 (by decide) (fun c_85 => ?_) (fun c_85 => ?_)
          · refine g_aload hX 3 rfl dX6_scan_93 ?_
            refine g_iload hX 1 rfl dX6_scan_95 ?_
            refine g_iload hX 0 rfl dX6_scan_97 ?_
            refine c_callI_V hX [.int (nI sa), .int (nI sb)] 5 (by omega) (cK_p hi_2) (by decide) rfl (k_X1_measureNote I r.toNatClampNeg hi_2 sa hsa (nI sb)) gX6_scan_X1_measureNote rfl rfl rfl hd_X1_measureNote ⟨Nat.le_of_ble_eq_true rfl, Nat.le_of_ble_eq_true rfl⟩ ⟨Nat.le_of_ble_eq_true rfl, Nat.le_of_ble_eq_true rfl⟩ rfl (Nat.le_of_ble_eq_true rfl) dX6_scan_99 (fun r_99 J_99 h_99 => ?_)
            obtain ⟨rfl, rfl⟩ := h_99
            refine t_iret hX hE dX6_scan_102 (Nat.le_of_ble_eq_true rfl) (Nat.le_of_ble_eq_true rfl) ?_
            have hw3 : w = 102 ∨ w = 108 ∨ w = 112 := Or.inr (Or.inl c_16)
            exact ⟨_, rfl, by simp only [ksc, rp_2, i10, hw3, c_46, if_true, if_false], rfl, by rw [scv, if_neg c_76, if_neg c_85, hse, d16 hsa hsb, r16 hsa hsb, nI_clamp (by omega)]⟩
          · refine g_iload hX 0 rfl dX6_scan_88 ?_
            refine g_goto (tgt := 102) hX dX6_scan_90 (by decide) ?_
            refine t_iret hX hE dX6_scan_102 (Nat.le_of_ble_eq_true rfl) (Nat.le_of_ble_eq_true rfl) ?_
            have hw3 : w = 102 ∨ w = 108 ∨ w = 112 := Or.inr (Or.inl c_16)
            exact ⟨_, rfl, by simp only [ksc, rp_2, i10, hw3, c_46, if_true, if_false], rfl, by rw [scv, if_neg c_76, if_pos c_85, hse, r16 hsa hsb]⟩
        · refine g_iload hX 1 rfl dX6_scan_79 ?_
          refine t_iret hX hE dX6_scan_81 (Nat.le_of_ble_eq_true rfl) (Nat.le_of_ble_eq_true rfl) ?_
          have hw3 : w = 102 ∨ w = 108 ∨ w = 112 := Or.inr (Or.inl c_16)
          exact ⟨_, rfl, by simp only [ksc, rp_2, i10, hw3, c_46, if_true, if_false], rfl, by rw [scv, if_pos c_76, hse, d16 hsa hsb]⟩
      · refine t_throwS hX hQ (text := "no such note") "java/util/NoSuchElementException" rfl (by decide +kernel) q_w3 q_w4 (by decide) q_hat104 hat_104 hgd_104 dX6_scan_49 dX6_scan_52 dX6_scan_53 dX6_scan_55 dX6_scan_58 (Nat.le_of_ble_eq_true rfl) (Nat.le_of_ble_eq_true rfl) (Nat.le_of_ble_eq_true rfl) (Nat.le_of_ble_eq_true rfl) (Nat.le_of_ble_eq_true rfl) (Nat.le_of_ble_eq_true rfl) ?_
        refine ⟨rfl, ?_⟩
        have hw3 : w = 102 ∨ w = 108 ∨ w = 112 := Or.inr (Or.inl c_16)
        exact Or.inr (Or.inr ⟨rfl, by simp only [ksc, rp_2, i10, hw3, c_46, if_true, if_false]⟩)
    · refine g_iload_n hX 4 rfl dX6_scan_19 rfl ?_
      refine g_bipush hX (112) dX6_scan_20 rfl ?_
      refine g_icmp_eq (tgt := 35) hX dX6_scan_22 (by decide) (fun c_22 => ?_) (fun c_22 => ?_)
      · refine g_aload hX 0 rfl dX6_scan_35 ?_
        refine g_iload_n hX 3 rfl dX6_scan_37 rfl ?_
        refine c_callI_V hX [.int x] 5 (by omega) (cK_p hi_2) (by decide) rfl (k_X1_findNote I r.toNatClampNeg hi_2 x) gX6_scan_X1_findNote rfl rfl rfl hd_X1_findNote ⟨Nat.le_of_ble_eq_true rfl, Nat.le_of_ble_eq_true rfl⟩ ⟨Nat.le_of_ble_eq_true rfl, Nat.le_of_ble_eq_true rfl⟩ rfl (Nat.le_of_ble_eq_true rfl) dX6_scan_38 (fun r_38 J_38 h_38 => ?_)
        obtain ⟨rfl, rfl⟩ := h_38
        refine g_istore hX [(5, .int (fnote I r.toNatClampNeg x)), (4, .ref (ad (4 + r.toNatClampNeg))), (0, .ref (ad 0)), (1, .int r), (2, .int x), (3, .int w)] rfl dX6_scan_41 (by decide) ?_
        refine g_iload hX 0 rfl dX6_scan_43 ?_
        refine g_iconst hX (-1) dX6_scan_45 rfl ?_
        refine g_icmp_ne (tgt := 59) hX dX6_scan_46 (by decide) (fun c_46 => ?_) (fun c_46 => ?_)
        · obtain ⟨sa, sb, hsa, hsb, hse⟩ := fnote_form c_46
          refine g_iload hX 0 rfl dX6_scan_59 ?_
          refine g_bipush hX (16) dX6_scan_61 rfl ?_
          refine g_idiv hX dX6_scan_63 (by decide) ?_
          refine g_eqi (y := nI sa) (by rw [hse]; exact d16 hsa hsb) ?_
          refine g_istore hX [(6, .int (nI sa)), (5, .int (fnote I r.toNatClampNeg x)), (4, .ref (ad (4 + r.toNatClampNeg))), (0, .ref (ad 0)), (1, .int r), (2, .int x), (3, .int w)] rfl dX6_scan_64 (by decide) ?_
          refine g_iload hX 1 rfl dX6_scan_66 ?_
          refine g_bipush hX (16) dX6_scan_68 rfl ?_
          refine g_irem hX dX6_scan_70 (by decide) ?_
          refine g_eqi (y := nI sb) (by rw [hse]; exact r16 hsa hsb) ?_
          refine g_istore hX [(7, .int (nI sb)), (6, .int (nI sa)), (5, .int (fnote I r.toNatClampNeg x)), (4, .ref (ad (4 + r.toNatClampNeg))), (0, .ref (ad 0)), (1, .int r), (2, .int x), (3, .int w)] rfl dX6_scan_71 (by decide) ?_
          refine g_iload_n hX 7 rfl dX6_scan_73 rfl ?_
          refine g_bipush hX (102) dX6_scan_74 rfl ?_
          refine g_icmp_ne (tgt := 82) hX dX6_scan_76 (by decide) (fun c_76 => ?_) (fun c_76 => ?_)
          · refine g_iload_n hX 7 rfl dX6_scan_82 rfl ?_
            refine g_bipush hX (112) dX6_scan_83 rfl ?_
            refine g_icmp_ne (tgt := 93) hX dX6_scan_85 (by decide) (fun c_85 => ?_) (fun c_85 => ?_)
            · refine g_aload hX 3 rfl dX6_scan_93 ?_
              refine g_iload hX 1 rfl dX6_scan_95 ?_
              refine g_iload hX 0 rfl dX6_scan_97 ?_
              refine c_callI_V hX [.int (nI sa), .int (nI sb)] 5 (by omega) (cK_p hi_2) (by decide) rfl (k_X1_measureNote I r.toNatClampNeg hi_2 sa hsa (nI sb)) gX6_scan_X1_measureNote rfl rfl rfl hd_X1_measureNote ⟨Nat.le_of_ble_eq_true rfl, Nat.le_of_ble_eq_true rfl⟩ ⟨Nat.le_of_ble_eq_true rfl, Nat.le_of_ble_eq_true rfl⟩ rfl (Nat.le_of_ble_eq_true rfl) dX6_scan_99 (fun r_99 J_99 h_99 => ?_)
              obtain ⟨rfl, rfl⟩ := h_99
              refine t_iret hX hE dX6_scan_102 (Nat.le_of_ble_eq_true rfl) (Nat.le_of_ble_eq_true rfl) ?_
              have hw3 : w = 102 ∨ w = 108 ∨ w = 112 := Or.inr (Or.inr c_22)
              exact ⟨_, rfl, by simp only [ksc, rp_2, i10, hw3, c_46, if_true, if_false], rfl, by rw [scv, if_neg c_76, if_neg c_85, hse, d16 hsa hsb, r16 hsa hsb, nI_clamp (by omega)]⟩
            · refine g_iload hX 0 rfl dX6_scan_88 ?_
              refine g_goto (tgt := 102) hX dX6_scan_90 (by decide) ?_
              refine t_iret hX hE dX6_scan_102 (Nat.le_of_ble_eq_true rfl) (Nat.le_of_ble_eq_true rfl) ?_
              have hw3 : w = 102 ∨ w = 108 ∨ w = 112 := Or.inr (Or.inr c_22)
              exact ⟨_, rfl, by simp only [ksc, rp_2, i10, hw3, c_46, if_true, if_false], rfl, by rw [scv, if_neg c_76, if_pos c_85, hse, r16 hsa hsb]⟩
          · refine g_iload hX 1 rfl dX6_scan_79 ?_
            refine t_iret hX hE dX6_scan_81 (Nat.le_of_ble_eq_true rfl) (Nat.le_of_ble_eq_true rfl) ?_
            have hw3 : w = 102 ∨ w = 108 ∨ w = 112 := Or.inr (Or.inr c_22)
            exact ⟨_, rfl, by simp only [ksc, rp_2, i10, hw3, c_46, if_true, if_false], rfl, by rw [scv, if_pos c_76, hse, d16 hsa hsb]⟩
        · refine t_throwS hX hQ (text := "no such note") "java/util/NoSuchElementException" rfl (by decide +kernel) q_w3 q_w4 (by decide) q_hat104 hat_104 hgd_104 dX6_scan_49 dX6_scan_52 dX6_scan_53 dX6_scan_55 dX6_scan_58 (Nat.le_of_ble_eq_true rfl) (Nat.le_of_ble_eq_true rfl) (Nat.le_of_ble_eq_true rfl) (Nat.le_of_ble_eq_true rfl) (Nat.le_of_ble_eq_true rfl) (Nat.le_of_ble_eq_true rfl) ?_
          refine ⟨rfl, ?_⟩
          have hw3 : w = 102 ∨ w = 108 ∨ w = 112 := Or.inr (Or.inr c_22)
          exact Or.inr (Or.inr ⟨rfl, by simp only [ksc, rp_2, i10, hw3, c_46, if_true, if_false]⟩)
      · refine t_throwS hX hQ (text := "a note has no such thing") "java/lang/IllegalArgumentException" rfl (by decide +kernel) q_w1 q_w2 (by decide) q_hat146 hat_146 hgd_146 dX6_scan_25 dX6_scan_28 dX6_scan_29 dX6_scan_31 dX6_scan_34 (Nat.le_of_ble_eq_true rfl) (Nat.le_of_ble_eq_true rfl) (Nat.le_of_ble_eq_true rfl) (Nat.le_of_ble_eq_true rfl) (Nat.le_of_ble_eq_true rfl) (Nat.le_of_ble_eq_true rfl) ?_
        refine ⟨rfl, ?_⟩
        simp [ksc, rp_2, c_10, c_16, c_22]
abbrev rm_X6_valve : Room := { frames := 7, cells := 3, slots := 18, locals := 104 }
theorem hd_X6_valve : yX6_valve.cls = RX6 ∧ yX6_valve.cls ≠ "java/lang/invoke/MethodHandle" ∧ yX6_valve.cls ≠ "java/lang/invoke/VarHandle" ∧ (parseMethodDescriptor yX6_valve.desc).map (fun d => d.parameters.length) = some 3 := by decide +kernel
set_option maxRecDepth 100000 in
set_option maxHeartbeats 4000000 in
theorem k_X6_valve {D : va_G} {dT : Nat → ClassId} {ad : Nat → Nat} (I : Nat → Nat → Int32) (n d q : Int32) : KTI yX6_valve wsX6_valve rm_X6_valve D dT ad I [.ref (ad 0), .int n, .int d, .int q] 3 18 (fun q J => kva n d q = 0 ∧ up2 (up2 I (24 + n.toNatClampNeg) 0 d) (24 + n.toNatClampNeg) 1 q = J ∧ I (24 + n.toNatClampNeg) 0 = q) (fun E => (E = xIO ∧ (kva n d q) = 1) ∨ (E = xIA ∧ (kva n d q) = 2)) := by
  intro l9 hl9
  refine ti_of hl9 (own := RX6) (cc := cX6_valve) (maxL := 6) (some .int) [(0, .ref (ad 0)), (1, .int n), (2, .int d), (3, .int q)] (by decide) rfl rfl rfl (Nat.le_of_ble_eq_true rfl) ?_
  intro X hX hE hN
  have hQ := FI.x hE
  have q_w1 : Cond.fieldLink RX6 164 "Perforatum$Valve" "delay" "I" ∈ wsX6_valve := List.mem_of_getElem? (i := 1) rfl
  have q_inX5 : ∀ w ∈ wsX50, w ∈ wsX6_valve := by decide +kernel
  have q_w2 : Cond.fieldLink RX6 169 "Perforatum$Valve" "rest" "I" ∈ wsX6_valve := List.mem_of_getElem? (i := 2) rfl
  refine g_aload_n hX 0 rfl dX6_valve_0 rfl ?_
  refine g_iload_n hX 1 rfl dX6_valve_1 rfl ?_
  refine ct_callQ_V hX hQ [.int n] 10 (by decide) rfl (by decide) rfl (k_X6_demandValve I n) gX6_valve_X6_demandValve rfl rfl rfl hd_X6_demandValve ⟨Nat.le_of_ble_eq_true rfl, Nat.le_of_ble_eq_true rfl⟩ ⟨Nat.le_of_ble_eq_true rfl, Nat.le_of_ble_eq_true rfl⟩ (Nat.le_of_ble_eq_true rfl) (Nat.le_of_ble_eq_true rfl) (fun E h9 => by obtain ⟨rfl, h9⟩ := h9; exact ⟨rfl, by simp [kva, h9]⟩) rfl (Nat.le_of_ble_eq_true rfl) dX6_valve_2 (fun r_2 J_2 h_2 => ?_)
  obtain ⟨rfl, rfl, hi_2, vk_2⟩ := h_2
  refine g_stk (st2 := .ref (ad (24 + n.toNatClampNeg)) :: []) rfl ?_
  refine g_astore hX [(4, .ref (ad (24 + n.toNatClampNeg))), (0, .ref (ad 0)), (1, .int n), (2, .int d), (3, .int q)] rfl dX6_valve_5 (by decide) ?_
  refine g_iload_n hX 3 rfl dX6_valve_7 rfl ?_
  refine g_iconst hX (0) dX6_valve_8 rfl ?_
  refine g_iconst hX (5) dX6_valve_9 rfl ?_
  refine ct_callV_S hX hQ [.int d, .int 0, .int 5] (k_X6_demandWithin I d 0 5) gX6_valve_X6_demandWithin rfl rfl rfl hd_X6_demandWithin.2 ⟨Nat.le_of_ble_eq_true rfl, Nat.le_of_ble_eq_true rfl⟩ ⟨Nat.le_of_ble_eq_true rfl, Nat.le_of_ble_eq_true rfl⟩ (Nat.le_of_ble_eq_true rfl) (Nat.le_of_ble_eq_true rfl) (fun E h9 => by obtain ⟨rfl, h9⟩ := h9; exact ⟨rfl, by simp [kva, h9, vk_2]⟩) rfl (Nat.le_of_ble_eq_true rfl) dX6_valve_10 (fun J_10 h_10 => ?_)
  obtain ⟨rfl, w_10⟩ := h_10
  refine g_iload_n hX 4 rfl dX6_valve_13 rfl ?_
  refine g_iconst hX (0) dX6_valve_14 rfl ?_
  refine g_bipush hX (9) dX6_valve_15 rfl ?_
  refine ct_callV_S hX hQ [.int q, .int 0, .int 9] (k_X6_demandWithin I q 0 9) gX6_valve_X6_demandWithin rfl rfl rfl hd_X6_demandWithin.2 ⟨Nat.le_of_ble_eq_true rfl, Nat.le_of_ble_eq_true rfl⟩ ⟨Nat.le_of_ble_eq_true rfl, Nat.le_of_ble_eq_true rfl⟩ (Nat.le_of_ble_eq_true rfl) (Nat.le_of_ble_eq_true rfl) (fun E h9 => by obtain ⟨rfl, h9⟩ := h9; exact ⟨rfl, by simp [kva, h9, vk_2, w_10]⟩) rfl (Nat.le_of_ble_eq_true rfl) dX6_valve_17 (fun J_17 h_17 => ?_)
  obtain ⟨rfl, w_17⟩ := h_17
  refine g_aload hX 0 rfl dX6_valve_20 ?_
  refine cg_X5_delay hX (by omega) (cK_v hi_2) q_inX5 q_w1 dX6_valve_22 ?_
  refine g_istore hX [(5, .int (I (24 + n.toNatClampNeg) 0)), (4, .ref (ad (24 + n.toNatClampNeg))), (0, .ref (ad 0)), (1, .int n), (2, .int d), (3, .int q)] rfl dX6_valve_25 (by decide) ?_
  refine g_aload hX 1 rfl dX6_valve_27 ?_
  refine g_iload_n hX 4 rfl dX6_valve_29 rfl ?_
  refine cp_X5_delay hX (by omega) (cK_v hi_2) q_inX5 q_w1 dX6_valve_30 ?_
  refine g_aload hX 1 rfl dX6_valve_33 ?_
  refine g_iload_n hX 5 rfl dX6_valve_35 rfl ?_
  refine cp_X5_rest hX (by omega) (cK_v hi_2) q_inX5 q_w2 dX6_valve_36 ?_
  refine g_iload hX 0 rfl dX6_valve_39 ?_
  refine t_iret hX hE dX6_valve_41 (Nat.le_of_ble_eq_true rfl) (Nat.le_of_ble_eq_true rfl) ?_
  exact ⟨_, rfl, by simp [kva, vk_2, w_10, w_17], rfl, rfl⟩
abbrev rm_X6_use : Room := { frames := 7, cells := 2, slots := 12, locals := 104 }
theorem hd_X6_use : yX6_use.cls = RX6 ∧ yX6_use.cls ≠ "java/lang/invoke/MethodHandle" ∧ yX6_use.cls ≠ "java/lang/invoke/VarHandle" ∧ (parseMethodDescriptor yX6_use.desc).map (fun d => d.parameters.length) = some 2 := by decide +kernel
set_option maxRecDepth 100000 in
set_option maxHeartbeats 4000000 in
theorem k_X6_use {D : va_G} {dT : Nat → ClassId} {ad : Nat → Nat} (I : Nat → Nat → Int32) (n u : Int32) : KTI yX6_use wsX6_use rm_X6_use D dT ad I [.ref (ad 0), .int n, .int u] 2 12 (fun q J => kus n u = 0 ∧ up2 I (24 + n.toNatClampNeg) 2 u = J ∧ I (24 + n.toNatClampNeg) 2 = q) (fun E => (E = xIO ∧ (kus n u) = 1) ∨ (E = xIA ∧ (kus n u) = 2)) := by
  intro l9 hl9
  refine ti_of hl9 (own := RX6) (cc := cX6_use) (maxL := 5) (some .int) [(0, .ref (ad 0)), (1, .int n), (2, .int u)] (by decide) rfl rfl rfl (Nat.le_of_ble_eq_true rfl) ?_
  intro X hX hE hN
  have hQ := FI.x hE
  have q_w1 : Cond.fieldLink RX6 172 "Perforatum$Valve" "use" "I" ∈ wsX6_use := List.mem_of_getElem? (i := 1) rfl
  have q_inX5 : ∀ w ∈ wsX50, w ∈ wsX6_use := by decide +kernel
  refine g_aload_n hX 0 rfl dX6_use_0 rfl ?_
  refine g_iload_n hX 1 rfl dX6_use_1 rfl ?_
  refine ct_callQ_V hX hQ [.int n] 10 (by decide) rfl (by decide) rfl (k_X6_demandValve I n) gX6_use_X6_demandValve rfl rfl rfl hd_X6_demandValve ⟨Nat.le_of_ble_eq_true rfl, Nat.le_of_ble_eq_true rfl⟩ ⟨Nat.le_of_ble_eq_true rfl, Nat.le_of_ble_eq_true rfl⟩ (Nat.le_of_ble_eq_true rfl) (Nat.le_of_ble_eq_true rfl) (fun E h9 => by obtain ⟨rfl, h9⟩ := h9; exact ⟨rfl, by simp [kus, h9]⟩) rfl (Nat.le_of_ble_eq_true rfl) dX6_use_2 (fun r_2 J_2 h_2 => ?_)
  obtain ⟨rfl, rfl, hi_2, vk_2⟩ := h_2
  refine g_stk (st2 := .ref (ad (24 + n.toNatClampNeg)) :: []) rfl ?_
  refine g_astore_n hX [(3, .ref (ad (24 + n.toNatClampNeg))), (0, .ref (ad 0)), (1, .int n), (2, .int u)] rfl dX6_use_5 rfl (by decide) ?_
  refine g_iload_n hX 3 rfl dX6_use_6 rfl ?_
  refine g_iconst hX (0) dX6_use_7 rfl ?_
  refine g_bipush hX (99) dX6_use_8 rfl ?_
  refine ct_callV_S hX hQ [.int u, .int 0, .int 99] (k_X6_demandWithin I u 0 99) gX6_use_X6_demandWithin rfl rfl rfl hd_X6_demandWithin.2 ⟨Nat.le_of_ble_eq_true rfl, Nat.le_of_ble_eq_true rfl⟩ ⟨Nat.le_of_ble_eq_true rfl, Nat.le_of_ble_eq_true rfl⟩ (Nat.le_of_ble_eq_true rfl) (Nat.le_of_ble_eq_true rfl) (fun E h9 => by obtain ⟨rfl, h9⟩ := h9; exact ⟨rfl, by simp [kus, h9, vk_2]⟩) rfl (Nat.le_of_ble_eq_true rfl) dX6_use_10 (fun J_10 h_10 => ?_)
  obtain ⟨rfl, w_10⟩ := h_10
  refine g_aload_n hX 0 rfl dX6_use_13 rfl ?_
  refine cg_X5_use hX (by omega) (cK_v hi_2) q_inX5 q_w1 dX6_use_14 ?_
  refine g_istore hX [(4, .int (I (24 + n.toNatClampNeg) 2)), (3, .ref (ad (24 + n.toNatClampNeg))), (0, .ref (ad 0)), (1, .int n), (2, .int u)] rfl dX6_use_17 (by decide) ?_
  refine g_aload_n hX 1 rfl dX6_use_19 rfl ?_
  refine g_iload_n hX 4 rfl dX6_use_20 rfl ?_
  refine cp_X5_use hX (by omega) (cK_v hi_2) q_inX5 q_w1 dX6_use_21 ?_
  refine g_iload hX 0 rfl dX6_use_24 ?_
  refine t_iret hX hE dX6_use_26 (Nat.le_of_ble_eq_true rfl) (Nat.le_of_ble_eq_true rfl) ?_
  exact ⟨_, rfl, by simp [kus, vk_2, w_10], rfl, rfl⟩
abbrev rm_X6_borrow : Room := { frames := 7, cells := 3, slots := 18, locals := 103 }
theorem hd_X6_borrow : yX6_borrow.cls = RX6 ∧ yX6_borrow.cls ≠ "java/lang/invoke/MethodHandle" ∧ yX6_borrow.cls ≠ "java/lang/invoke/VarHandle" ∧ (parseMethodDescriptor yX6_borrow.desc).map (fun d => d.parameters.length) = some 2 := by decide +kernel
set_option maxRecDepth 100000 in
set_option maxHeartbeats 4000000 in
theorem k_X6_borrow {D : va_G} {dT : Nat → ClassId} {ad : Nat → Nat} (I : Nat → Nat → Int32) (n o : Int32) : KTI yX6_borrow wsX6_borrow rm_X6_borrow D dT ad I [.ref (ad 0), .int n, .int o] 3 18 (fun q J => kbo I n o = 0 ∧ up2 I (24 + n.toNatClampNeg) 3 o = J ∧ I (24 + n.toNatClampNeg) 3 = q) (fun E => (E = xIO ∧ (kbo I n o) = 1) ∨ (E = xUO ∧ (kbo I n o) = 2)) := by
  intro l9 hl9
  refine ti_of hl9 (own := RX6) (cc := cX6_borrow) (maxL := 6) (some .int) [(0, .ref (ad 0)), (1, .int n), (2, .int o)] (by decide) rfl rfl rfl (Nat.le_of_ble_eq_true rfl) ?_
  intro X hX hE hN
  have hQ := FI.x hE
  have q_w3 : Cond.fieldLink RX6 175 "Perforatum$Valve" "lender" "I" ∈ wsX6_borrow := List.mem_of_getElem? (i := 3) rfl
  have q_inX5 : ∀ w ∈ wsX50, w ∈ wsX6_borrow := by decide +kernel
  have q_w1 : Cond.classLink RX6 111 "java/lang/UnsupportedOperationException" ∈ wsX6_borrow := List.mem_of_getElem? (i := 1) rfl
  have q_w2 : Cond.initialized "java/lang/UnsupportedOperationException" ∈ wsX6_borrow := List.mem_of_getElem? (i := 2) rfl
  have q_hat115 : ∀ w ∈ (vx_atS RX6 115 "java/lang/UnsupportedOperationException" ["java/lang/RuntimeException", "java/lang/Exception"]).filter goodWord, w ∈ wsX6_borrow := by decide +kernel
  refine g_aload_n hX 0 rfl dX6_borrow_0 rfl ?_
  refine g_iload_n hX 1 rfl dX6_borrow_1 rfl ?_
  refine ct_callQ_V hX hQ [.int n] 10 (by decide) rfl (by decide) rfl (k_X6_demandValve I n) gX6_borrow_X6_demandValve rfl rfl rfl hd_X6_demandValve ⟨Nat.le_of_ble_eq_true rfl, Nat.le_of_ble_eq_true rfl⟩ ⟨Nat.le_of_ble_eq_true rfl, Nat.le_of_ble_eq_true rfl⟩ (Nat.le_of_ble_eq_true rfl) (Nat.le_of_ble_eq_true rfl) (fun E h9 => by obtain ⟨rfl, h9⟩ := h9; exact ⟨rfl, by simp [kbo, h9]⟩) rfl (Nat.le_of_ble_eq_true rfl) dX6_borrow_2 (fun r_2 J_2 h_2 => ?_)
  obtain ⟨rfl, rfl, hi_2, vk_2⟩ := h_2
  refine g_stk (st2 := .ref (ad (24 + n.toNatClampNeg)) :: []) rfl ?_
  refine g_astore_n hX [(3, .ref (ad (24 + n.toNatClampNeg))), (0, .ref (ad 0)), (1, .int n), (2, .int o)] rfl dX6_borrow_5 rfl (by decide) ?_
  refine g_aload_n hX 1 rfl dX6_borrow_6 rfl ?_
  refine g_iload_n hX 3 rfl dX6_borrow_7 rfl ?_
  refine ct_callQ_V hX hQ [.int o] 10 (by decide) rfl (by decide) rfl (k_X6_demandValve I o) gX6_borrow_X6_demandValve rfl rfl rfl hd_X6_demandValve ⟨Nat.le_of_ble_eq_true rfl, Nat.le_of_ble_eq_true rfl⟩ ⟨Nat.le_of_ble_eq_true rfl, Nat.le_of_ble_eq_true rfl⟩ (Nat.le_of_ble_eq_true rfl) (Nat.le_of_ble_eq_true rfl) (fun E h9 => by obtain ⟨rfl, h9⟩ := h9; exact ⟨rfl, by simp [kbo, h9, vk_2]⟩) rfl (Nat.le_of_ble_eq_true rfl) dX6_borrow_8 (fun r_8 J_8 h_8 => ?_)
  obtain ⟨rfl, rfl, hi_8, vk_8⟩ := h_8
  refine g_stk (st2 := .ref (ad (24 + o.toNatClampNeg)) :: []) rfl ?_
  refine g_astore hX [(4, .ref (ad (24 + o.toNatClampNeg))), (3, .ref (ad (24 + n.toNatClampNeg))), (0, .ref (ad 0)), (1, .int n), (2, .int o)] rfl dX6_borrow_11 (by decide) ?_
  refine g_iload_n hX 4 rfl dX6_borrow_13 rfl ?_
  refine g_iload_n hX 3 rfl dX6_borrow_14 rfl ?_
  refine g_icmp_eq (tgt := 45) hX dX6_borrow_15 (by decide) (fun c_15 => ?_) (fun c_15 => ?_)
  · refine g_aload_n hX 1 rfl dX6_borrow_45 rfl ?_
    refine cg_X5_lender hX (by omega) (cK_v hi_2) q_inX5 q_w3 dX6_borrow_46 ?_
    refine g_istore hX [(5, .int (I (24 + n.toNatClampNeg) 3)), (4, .ref (ad (24 + o.toNatClampNeg))), (3, .ref (ad (24 + n.toNatClampNeg))), (0, .ref (ad 0)), (1, .int n), (2, .int o)] rfl dX6_borrow_49 (by decide) ?_
    refine g_aload_n hX 2 rfl dX6_borrow_51 rfl ?_
    refine g_iload_n hX 5 rfl dX6_borrow_52 rfl ?_
    refine cp_X5_lender hX (by omega) (cK_v hi_2) q_inX5 q_w3 dX6_borrow_53 ?_
    refine g_iload hX 0 rfl dX6_borrow_56 ?_
    refine t_iret hX hE dX6_borrow_58 (Nat.le_of_ble_eq_true rfl) (Nat.le_of_ble_eq_true rfl) ?_
    exact ⟨_, rfl, by simp only [kbo, c_15, vk_2, vk_8, i10, if_true, if_false], rfl, rfl⟩
  · refine g_aload hX 0 rfl dX6_borrow_18 ?_
    refine cg_X5_lender hX (by omega) (cK_v hi_8) q_inX5 q_w3 dX6_borrow_20 ?_
    refine g_iload_n hX 4 rfl dX6_borrow_23 rfl ?_
    refine g_icmp_ne (tgt := 35) hX dX6_borrow_24 (by decide) (fun c_24 => ?_) (fun c_24 => ?_)
    · refine t_throwS hX hQ (text := "borrowed notes make no chains") "java/lang/UnsupportedOperationException" rfl (by decide +kernel) q_w1 q_w2 (by decide) q_hat115 hat_115 hgd_115 dX6_borrow_35 dX6_borrow_38 dX6_borrow_39 dX6_borrow_41 dX6_borrow_44 (Nat.le_of_ble_eq_true rfl) (Nat.le_of_ble_eq_true rfl) (Nat.le_of_ble_eq_true rfl) (Nat.le_of_ble_eq_true rfl) (Nat.le_of_ble_eq_true rfl) (Nat.le_of_ble_eq_true rfl) ?_
      refine ⟨rfl, ?_⟩
      exact Or.inr ⟨rfl, by simp only [kbo, c_15, c_24, vk_2, vk_8, i10, if_true, if_false]⟩
    · refine g_aload_n hX 2 rfl dX6_borrow_27 rfl ?_
      refine g_iload_n hX 3 rfl dX6_borrow_28 rfl ?_
      refine c_callI_V hX [.int n] 10 (by decide) rfl (by decide) rfl (k_X6_isLentToAnother I n) gX6_borrow_X6_isLentToAnother rfl rfl rfl hd_X6_isLentToAnother ⟨Nat.le_of_ble_eq_true rfl, Nat.le_of_ble_eq_true rfl⟩ ⟨Nat.le_of_ble_eq_true rfl, Nat.le_of_ble_eq_true rfl⟩ rfl (Nat.le_of_ble_eq_true rfl) dX6_borrow_29 (fun r_29 J_29 h_29 => ?_)
      obtain ⟨rfl, rfl⟩ := h_29
      refine g_if_eq (tgt := 45) hX dX6_borrow_32 (by decide) (fun c_32 => ?_) (fun c_32 => ?_)
      · refine g_aload_n hX 1 rfl dX6_borrow_45 rfl ?_
        refine cg_X5_lender hX (by omega) (cK_v hi_2) q_inX5 q_w3 dX6_borrow_46 ?_
        refine g_istore hX [(5, .int (I (24 + n.toNatClampNeg) 3)), (4, .ref (ad (24 + o.toNatClampNeg))), (3, .ref (ad (24 + n.toNatClampNeg))), (0, .ref (ad 0)), (1, .int n), (2, .int o)] rfl dX6_borrow_49 (by decide) ?_
        refine g_aload_n hX 2 rfl dX6_borrow_51 rfl ?_
        refine g_iload_n hX 5 rfl dX6_borrow_52 rfl ?_
        refine cp_X5_lender hX (by omega) (cK_v hi_2) q_inX5 q_w3 dX6_borrow_53 ?_
        refine g_iload hX 0 rfl dX6_borrow_56 ?_
        refine t_iret hX hE dX6_borrow_58 (Nat.le_of_ble_eq_true rfl) (Nat.le_of_ble_eq_true rfl) ?_
        exact ⟨_, rfl, by simp only [kbo, c_15, c_24, c_32, vk_2, vk_8, i10, if_true, if_false], rfl, rfl⟩
      · refine t_throwS hX hQ (text := "borrowed notes make no chains") "java/lang/UnsupportedOperationException" rfl (by decide +kernel) q_w1 q_w2 (by decide) q_hat115 hat_115 hgd_115 dX6_borrow_35 dX6_borrow_38 dX6_borrow_39 dX6_borrow_41 dX6_borrow_44 (Nat.le_of_ble_eq_true rfl) (Nat.le_of_ble_eq_true rfl) (Nat.le_of_ble_eq_true rfl) (Nat.le_of_ble_eq_true rfl) (Nat.le_of_ble_eq_true rfl) (Nat.le_of_ble_eq_true rfl) ?_
        refine ⟨rfl, ?_⟩
        exact Or.inr ⟨rfl, by simp only [kbo, c_15, c_24, c_32, vk_2, vk_8, i10, if_true, if_false]⟩
abbrev rm_X6_set : Room := { frames := 7, cells := 1, slots := 6, locals := 104 }
theorem hd_X6_set : yX6_set.cls = RX6 ∧ yX6_set.cls ≠ "java/lang/invoke/MethodHandle" ∧ yX6_set.cls ≠ "java/lang/invoke/VarHandle" ∧ (parseMethodDescriptor yX6_set.desc).map (fun d => d.parameters.length) = some 2 := by decide +kernel
set_option maxRecDepth 100000 in
set_option maxHeartbeats 4000000 in
theorem k_X6_set {D : va_G} {dT : Nat → ClassId} {ad : Nat → Nat} (I : Nat → Nat → Int32) (w n : Int32) : KTI yX6_set wsX6_set rm_X6_set D dT ad I [.ref (ad 0), .int w, .int n] 1 6 (fun q J => kse w n = 0 ∧ exI I w n = J ∧ exR I w = q) (fun E => (E = xIA ∧ (kse w n) = 1)) := by
  intro l9 hl9
  refine ti_of hl9 (own := RX6) (cc := cX6_set) (maxL := 4) (some .int) [(0, .ref (ad 0)), (1, .int w), (2, .int n)] (by decide) rfl rfl rfl (Nat.le_of_ble_eq_true rfl) ?_
  intro X hX hE hN
  have hQ := FI.x hE
  have q_w3 : Cond.fieldLink RX6 33 "Perforatum" "settings" "LPerforatum$Settings;" ∈ wsX6_set := List.mem_of_getElem? (i := 3) rfl
  have q_inX6 : ∀ w ∈ wsX60, w ∈ wsX6_set := by decide +kernel
  have q_w1 : Cond.classLink RX6 142 "java/lang/IllegalArgumentException" ∈ wsX6_set := List.mem_of_getElem? (i := 1) rfl
  have q_w2 : Cond.initialized "java/lang/IllegalArgumentException" ∈ wsX6_set := List.mem_of_getElem? (i := 2) rfl
  have q_hat146 : ∀ w ∈ (vx_atS RX6 146 "java/lang/IllegalArgumentException" ["java/lang/RuntimeException", "java/lang/Exception"]).filter goodWord, w ∈ wsX6_set := by decide +kernel
  refine g_aload_n hX 0 rfl dX6_set_0 rfl ?_
  refine cg_X6_settings hX (by decide) rfl q_inX6 q_w3 rfl dX6_set_1 ?_
  refine g_iload_n hX 1 rfl dX6_set_4 rfl ?_
  refine c_callI_V hX [.int w] 7 (by decide) rfl (by decide) rfl (k_X3_findMost I w) gX6_set_X3_findMost rfl rfl rfl hd_X3_findMost ⟨Nat.le_of_ble_eq_true rfl, Nat.le_of_ble_eq_true rfl⟩ ⟨Nat.zero_le _, Nat.zero_le _⟩ rfl (Nat.le_of_ble_eq_true rfl) dX6_set_5 (fun r_5 J_5 h_5 => ?_)
  obtain ⟨rfl, rfl⟩ := h_5
  refine g_istore_n hX [(3, .int (fmo w)), (0, .ref (ad 0)), (1, .int w), (2, .int n)] rfl dX6_set_8 rfl (by decide) ?_
  refine g_iload_n hX 0 rfl dX6_set_9 rfl ?_
  refine g_if_ge (tgt := 23) hX dX6_set_10 (by decide) (fun c_10 => ?_) (fun c_10 => ?_)
  · refine g_iload_n hX 3 rfl dX6_set_23 rfl ?_
    refine g_iconst hX (0) dX6_set_24 rfl ?_
    refine g_iload_n hX 0 rfl dX6_set_25 rfl ?_
    refine ct_callV_S hX hQ [.int n, .int 0, .int (fmo w)] (k_X6_demandWithin I n 0 (fmo w)) gX6_set_X6_demandWithin rfl rfl rfl hd_X6_demandWithin.2 ⟨Nat.le_of_ble_eq_true rfl, Nat.le_of_ble_eq_true rfl⟩ ⟨Nat.le_of_ble_eq_true rfl, Nat.le_of_ble_eq_true rfl⟩ (Nat.le_of_ble_eq_true rfl) (Nat.le_of_ble_eq_true rfl) (fun E h9 => by obtain ⟨rfl, h9⟩ := h9; exact ⟨rfl, by simp [kse, h9, c_10]⟩) rfl (Nat.le_of_ble_eq_true rfl) dX6_set_26 (fun J_26 h_26 => ?_)
    obtain ⟨rfl, w_26⟩ := h_26
    refine g_aload_n hX 1 rfl dX6_set_29 rfl ?_
    refine cg_X6_settings hX (by decide) rfl q_inX6 q_w3 rfl dX6_set_30 ?_
    refine g_iload_n hX 2 rfl dX6_set_33 rfl ?_
    refine g_iload_n hX 3 rfl dX6_set_34 rfl ?_
    refine c_callI_V hX [.int w, .int n] 7 (by decide) rfl (by decide) rfl (k_X3_exchange I w n) gX6_set_X3_exchange rfl rfl rfl hd_X3_exchange ⟨Nat.le_of_ble_eq_true rfl, Nat.le_of_ble_eq_true rfl⟩ ⟨Nat.le_of_ble_eq_true rfl, Nat.le_of_ble_eq_true rfl⟩ rfl (Nat.le_of_ble_eq_true rfl) dX6_set_35 (fun r_35 J_35 h_35 => ?_)
    obtain ⟨rfl, rfl⟩ := h_35
    refine t_iret hX hE dX6_set_38 (Nat.le_of_ble_eq_true rfl) (Nat.le_of_ble_eq_true rfl) ?_
    exact ⟨_, rfl, by simp [kse, w_26, c_10], rfl, rfl⟩
  · refine t_throwS hX hQ (text := "no such thing is told for all") "java/lang/IllegalArgumentException" rfl (by decide +kernel) q_w1 q_w2 (by decide) q_hat146 hat_146 hgd_146 dX6_set_13 dX6_set_16 dX6_set_17 dX6_set_19 dX6_set_22 (Nat.le_of_ble_eq_true rfl) (Nat.le_of_ble_eq_true rfl) (Nat.le_of_ble_eq_true rfl) (Nat.le_of_ble_eq_true rfl) (Nat.le_of_ble_eq_true rfl) (Nat.le_of_ble_eq_true rfl) ?_
    refine ⟨rfl, ?_⟩
    simp [kse, c_10]
abbrev rm_X6_maker : Room := { frames := 6, cells := 1, slots := 6, locals := 82 }
theorem hd_X6_maker : yX6_maker.cls = RX6 ∧ yX6_maker.cls ≠ "java/lang/invoke/MethodHandle" ∧ yX6_maker.cls ≠ "java/lang/invoke/VarHandle" ∧ (parseMethodDescriptor yX6_maker.desc).map (fun d => d.parameters.length) = some 1 := by decide +kernel
set_option maxRecDepth 100000 in
set_option maxHeartbeats 4000000 in
theorem k_X6_maker {D : va_G} {dT : Nat → ClassId} {ad : Nat → Nat} (I : Nat → Nat → Int32) (hmk : I 15 4 = 97 ∨ I 15 4 = 98 ∨ I 15 4 = 99) (w : Int32) : KTI yX6_maker wsX6_maker rm_X6_maker D dT ad I [.ref (ad 0), .int w] 1 6 (fun q J => kmk w = 0 ∧ up2 I 15 4 w = J ∧ I 15 4 = q) (fun E => (E = xIA ∧ (kmk w) = 1)) := by
  intro l9 hl9
  refine ti_of hl9 (own := RX6) (cc := cX6_maker) (maxL := 3) (some .char) [(0, .ref (ad 0)), (1, .int w)] (by decide) rfl rfl rfl (Nat.le_of_ble_eq_true rfl) ?_
  intro X hX hE hN
  have hQ := FI.x hE
  have q_w3 : Cond.fieldLink RX6 33 "Perforatum" "settings" "LPerforatum$Settings;" ∈ wsX6_maker := List.mem_of_getElem? (i := 3) rfl
  have q_inX6 : ∀ w ∈ wsX60, w ∈ wsX6_maker := by decide +kernel
  have q_w4 : Cond.fieldLink RX6 198 "Perforatum$Settings" "maker" "C" ∈ wsX6_maker := List.mem_of_getElem? (i := 4) rfl
  have q_inX3 : ∀ w ∈ wsX30, w ∈ wsX6_maker := by decide +kernel
  have q_w1 : Cond.classLink RX6 142 "java/lang/IllegalArgumentException" ∈ wsX6_maker := List.mem_of_getElem? (i := 1) rfl
  have q_w2 : Cond.initialized "java/lang/IllegalArgumentException" ∈ wsX6_maker := List.mem_of_getElem? (i := 2) rfl
  have q_hat146 : ∀ w ∈ (vx_atS RX6 146 "java/lang/IllegalArgumentException" ["java/lang/RuntimeException", "java/lang/Exception"]).filter goodWord, w ∈ wsX6_maker := by decide +kernel
  refine g_iload_n hX 1 rfl dX6_maker_0 rfl ?_
  refine g_bipush hX (97) dX6_maker_1 rfl ?_
  refine g_icmp_eq (tgt := 28) hX dX6_maker_3 (by decide) (fun c_3 => ?_) (fun c_3 => ?_)
  · refine g_aload_n hX 0 rfl dX6_maker_28 rfl ?_
    refine cg_X6_settings hX (by decide) rfl q_inX6 q_w3 rfl dX6_maker_29 ?_
    refine cg_X3_maker hX (by decide) rfl q_inX3 q_w4 dX6_maker_32 ?_
    refine g_istore_n hX [(2, .int (I 15 4)), (0, .ref (ad 0)), (1, .int w)] rfl dX6_maker_35 rfl (by decide) ?_
    refine g_aload_n hX 1 rfl dX6_maker_36 rfl ?_
    refine cg_X6_settings hX (by decide) rfl q_inX6 q_w3 rfl dX6_maker_37 ?_
    refine g_iload_n hX 2 rfl dX6_maker_40 rfl ?_
    refine cp_X3_maker hX (by decide) rfl q_inX3 q_w4 (nz3 (Or.inl c_3)) (fz3 (Or.inl c_3)) dX6_maker_41 ?_
    refine g_iload_n hX 0 rfl dX6_maker_44 rfl ?_
    refine t_zret hX (nz3 hmk) hE dX6_maker_45 (Nat.le_of_ble_eq_true rfl) (Nat.le_of_ble_eq_true rfl) ?_
    exact ⟨_, rfl, by rw [kmk, if_pos (Or.inl c_3)], rfl, rfl⟩
  · refine g_iload_n hX 1 rfl dX6_maker_6 rfl ?_
    refine g_bipush hX (98) dX6_maker_7 rfl ?_
    refine g_icmp_eq (tgt := 28) hX dX6_maker_9 (by decide) (fun c_9 => ?_) (fun c_9 => ?_)
    · refine g_aload_n hX 0 rfl dX6_maker_28 rfl ?_
      refine cg_X6_settings hX (by decide) rfl q_inX6 q_w3 rfl dX6_maker_29 ?_
      refine cg_X3_maker hX (by decide) rfl q_inX3 q_w4 dX6_maker_32 ?_
      refine g_istore_n hX [(2, .int (I 15 4)), (0, .ref (ad 0)), (1, .int w)] rfl dX6_maker_35 rfl (by decide) ?_
      refine g_aload_n hX 1 rfl dX6_maker_36 rfl ?_
      refine cg_X6_settings hX (by decide) rfl q_inX6 q_w3 rfl dX6_maker_37 ?_
      refine g_iload_n hX 2 rfl dX6_maker_40 rfl ?_
      refine cp_X3_maker hX (by decide) rfl q_inX3 q_w4 (nz3 (Or.inr (Or.inl c_9))) (fz3 (Or.inr (Or.inl c_9))) dX6_maker_41 ?_
      refine g_iload_n hX 0 rfl dX6_maker_44 rfl ?_
      refine t_zret hX (nz3 hmk) hE dX6_maker_45 (Nat.le_of_ble_eq_true rfl) (Nat.le_of_ble_eq_true rfl) ?_
      exact ⟨_, rfl, by rw [kmk, if_pos (Or.inr (Or.inl c_9))], rfl, rfl⟩
    · refine g_iload_n hX 1 rfl dX6_maker_12 rfl ?_
      refine g_bipush hX (99) dX6_maker_13 rfl ?_
      refine g_icmp_eq (tgt := 28) hX dX6_maker_15 (by decide) (fun c_15 => ?_) (fun c_15 => ?_)
      · refine g_aload_n hX 0 rfl dX6_maker_28 rfl ?_
        refine cg_X6_settings hX (by decide) rfl q_inX6 q_w3 rfl dX6_maker_29 ?_
        refine cg_X3_maker hX (by decide) rfl q_inX3 q_w4 dX6_maker_32 ?_
        refine g_istore_n hX [(2, .int (I 15 4)), (0, .ref (ad 0)), (1, .int w)] rfl dX6_maker_35 rfl (by decide) ?_
        refine g_aload_n hX 1 rfl dX6_maker_36 rfl ?_
        refine cg_X6_settings hX (by decide) rfl q_inX6 q_w3 rfl dX6_maker_37 ?_
        refine g_iload_n hX 2 rfl dX6_maker_40 rfl ?_
        refine cp_X3_maker hX (by decide) rfl q_inX3 q_w4 (nz3 (Or.inr (Or.inr c_15))) (fz3 (Or.inr (Or.inr c_15))) dX6_maker_41 ?_
        refine g_iload_n hX 0 rfl dX6_maker_44 rfl ?_
        refine t_zret hX (nz3 hmk) hE dX6_maker_45 (Nat.le_of_ble_eq_true rfl) (Nat.le_of_ble_eq_true rfl) ?_
        exact ⟨_, rfl, by rw [kmk, if_pos (Or.inr (Or.inr c_15))], rfl, rfl⟩
      · refine t_throwS hX hQ (text := "no such maker") "java/lang/IllegalArgumentException" rfl (by decide +kernel) q_w1 q_w2 (by decide) q_hat146 hat_146 hgd_146 dX6_maker_18 dX6_maker_21 dX6_maker_22 dX6_maker_24 dX6_maker_27 (Nat.le_of_ble_eq_true rfl) (Nat.le_of_ble_eq_true rfl) (Nat.le_of_ble_eq_true rfl) (Nat.le_of_ble_eq_true rfl) (Nat.le_of_ble_eq_true rfl) (Nat.le_of_ble_eq_true rfl) ?_
        refine ⟨rfl, ?_⟩
        simp [kmk, c_3, c_9, c_15]
abbrev rm_X6_load : Room := { frames := 7, cells := 1, slots := 6, locals := 103 }
theorem hd_X6_load : yX6_load.cls = RX6 ∧ yX6_load.cls ≠ "java/lang/invoke/MethodHandle" ∧ yX6_load.cls ≠ "java/lang/invoke/VarHandle" ∧ (parseMethodDescriptor yX6_load.desc).map (fun d => d.parameters.length) = some 1 := by decide +kernel
set_option maxRecDepth 100000 in
set_option maxHeartbeats 4000000 in
theorem k_X6_load {D : va_G} {dT : Nat → ClassId} {ad : Nat → Nat} (I : Nat → Nat → Int32) (r : Int32) : KTI yX6_load wsX6_load rm_X6_load D dT ad I [.ref (ad 0), .int r] 1 6 (fun q J => kr1 I r = 0 ∧ bgP I r.toNatClampNeg = J ∧ crw (bgP I r.toNatClampNeg (8 + r.toNatClampNeg)) 200 = q) (fun E => (E = xIO ∧ (kr1 I r) = 1)) := by
  intro l9 hl9
  refine ti_of hl9 (own := RX6) (cc := cX6_load) (maxL := 3) (some .int) [(0, .ref (ad 0)), (1, .int r)] (by decide) rfl rfl rfl (Nat.le_of_ble_eq_true rfl) ?_
  intro X hX hE hN
  have hQ := FI.x hE
  have q_w1 : Cond.fieldLink RX6 25 "Perforatum" "player" "LPerforatum$Player;" ∈ wsX6_load := List.mem_of_getElem? (i := 1) rfl
  have q_inX6 : ∀ w ∈ wsX60, w ∈ wsX6_load := by decide +kernel
  refine g_aload_n hX 0 rfl dX6_load_0 rfl ?_
  refine g_iload_n hX 1 rfl dX6_load_1 rfl ?_
  refine ct_callQ_V hX hQ [.int r] 10 (by decide) rfl (by decide) rfl (k_X6_demandPaper I r) gX6_load_X6_demandPaper rfl rfl rfl hd_X6_demandPaper ⟨Nat.le_of_ble_eq_true rfl, Nat.le_of_ble_eq_true rfl⟩ ⟨Nat.le_of_ble_eq_true rfl, Nat.le_of_ble_eq_true rfl⟩ (Nat.le_of_ble_eq_true rfl) (Nat.le_of_ble_eq_true rfl) (fun E h9 => by obtain ⟨rfl, h9⟩ := h9; exact ⟨rfl, by simp [kr1, h9]⟩) rfl (Nat.le_of_ble_eq_true rfl) dX6_load_2 (fun r_2 J_2 h_2 => ?_)
  obtain ⟨rfl, rfl, hi_2, rp_2⟩ := h_2
  refine g_stk (st2 := .ref (ad (4 + r.toNatClampNeg)) :: []) rfl ?_
  refine g_astore_n hX [(2, .ref (ad (4 + r.toNatClampNeg))), (0, .ref (ad 0)), (1, .int r)] rfl dX6_load_5 rfl (by decide) ?_
  refine g_aload_n hX 1 rfl dX6_load_6 rfl ?_
  refine cg_X6_player hX (by decide) rfl q_inX6 q_w1 rfl dX6_load_7 ?_
  refine g_aload_n hX 0 rfl dX6_load_10 rfl ?_
  refine c_callV_V hX [.ref (ad (4 + r.toNatClampNeg))] 6 (by decide) rfl (by decide) rfl (k_X2_begin I r.toNatClampNeg hi_2) gX6_load_X2_begin rfl rfl rfl hd_X2_begin ⟨Nat.le_of_ble_eq_true rfl, Nat.le_of_ble_eq_true rfl⟩ ⟨Nat.le_of_ble_eq_true rfl, Nat.le_of_ble_eq_true rfl⟩ rfl (Nat.le_of_ble_eq_true rfl) dX6_load_11 (fun J_11 h_11 => ?_)
  subst h_11
  refine g_aload_n hX 0 rfl dX6_load_14 rfl ?_
  refine c_callI_V hX [] 5 (by omega) (cK_p hi_2) (by decide) rfl (k_X1_countRows (bgP I r.toNatClampNeg) r.toNatClampNeg hi_2) gX6_load_X1_countRows rfl rfl rfl hd_X1_countRows ⟨Nat.le_of_ble_eq_true rfl, Nat.le_of_ble_eq_true rfl⟩ ⟨Nat.le_of_ble_eq_true rfl, Nat.le_of_ble_eq_true rfl⟩ rfl (Nat.le_of_ble_eq_true rfl) dX6_load_15 (fun r_15 J_15 h_15 => ?_)
  obtain ⟨rfl, rfl⟩ := h_15
  refine t_iret hX hE dX6_load_18 (Nat.le_of_ble_eq_true rfl) (Nat.le_of_ble_eq_true rfl) ?_
  exact ⟨_, rfl, by simp [kr1, rp_2], rfl, rfl⟩
abbrev rm_X6_aside : Room := { frames := 7, cells := 2, slots := 12, locals := 104 }
theorem hd_X6_aside : yX6_aside.cls = RX6 ∧ yX6_aside.cls ≠ "java/lang/invoke/MethodHandle" ∧ yX6_aside.cls ≠ "java/lang/invoke/VarHandle" ∧ (parseMethodDescriptor yX6_aside.desc).map (fun d => d.parameters.length) = some 1 := by decide +kernel
set_option maxRecDepth 100000 in
set_option maxHeartbeats 4000000 in
theorem k_X6_aside {D : va_G} {dT : Nat → ClassId} {ad : Nat → Nat} (I : Nat → Nat → Int32) (t : Int32) : KTI yX6_aside wsX6_aside rm_X6_aside D dT ad I [.ref (ad 0), .int t] 2 12 (fun q J => kas I t = 0 ∧ up2 I 3 7 t = J ∧ I 3 7 = q) (fun E => (E = xIS ∧ (kas I t) = 1) ∨ (E = xIA ∧ (kas I t) = 2)) := by
  intro l9 hl9
  refine ti_of hl9 (own := RX6) (cc := cX6_aside) (maxL := 3) (some .int) [(0, .ref (ad 0)), (1, .int t)] (by decide) rfl rfl rfl (Nat.le_of_ble_eq_true rfl) ?_
  intro X hX hE hN
  have hQ := FI.x hE
  have q_w1 : Cond.fieldLink RX6 25 "Perforatum" "player" "LPerforatum$Player;" ∈ wsX6_aside := List.mem_of_getElem? (i := 1) rfl
  have q_inX6 : ∀ w ∈ wsX60, w ∈ wsX6_aside := by decide +kernel
  have q_w2 : Cond.fieldLink RX6 208 "Perforatum$Player" "shift" "I" ∈ wsX6_aside := List.mem_of_getElem? (i := 2) rfl
  have q_inX2 : ∀ w ∈ wsX20, w ∈ wsX6_aside := by decide +kernel
  refine g_aload_n hX 0 rfl dX6_aside_0 rfl ?_
  refine ct_callV_V hX hQ [] 10 (by decide) rfl (by decide) rfl (k_X6_demandPlaying I ) gX6_aside_X6_demandPlaying rfl rfl rfl hd_X6_demandPlaying ⟨Nat.le_of_ble_eq_true rfl, Nat.le_of_ble_eq_true rfl⟩ ⟨Nat.le_of_ble_eq_true rfl, Nat.le_of_ble_eq_true rfl⟩ (Nat.le_of_ble_eq_true rfl) (Nat.le_of_ble_eq_true rfl) (fun E h9 => by obtain ⟨rfl, h9⟩ := h9; exact ⟨rfl, by simp [kas, h9]⟩) rfl (Nat.le_of_ble_eq_true rfl) dX6_aside_1 (fun J_1 h_1 => ?_)
  obtain ⟨rfl, w_1⟩ := h_1
  refine g_iload_n hX 1 rfl dX6_aside_4 rfl ?_
  refine g_bipush hX (-2) dX6_aside_5 rfl ?_
  refine g_iconst hX (2) dX6_aside_7 rfl ?_
  refine ct_callV_S hX hQ [.int t, .int (-2), .int 2] (k_X6_demandWithin I t (-2) 2) gX6_aside_X6_demandWithin rfl rfl rfl hd_X6_demandWithin.2 ⟨Nat.le_of_ble_eq_true rfl, Nat.le_of_ble_eq_true rfl⟩ ⟨Nat.le_of_ble_eq_true rfl, Nat.le_of_ble_eq_true rfl⟩ (Nat.le_of_ble_eq_true rfl) (Nat.le_of_ble_eq_true rfl) (fun E h9 => by obtain ⟨rfl, h9⟩ := h9; exact ⟨rfl, by simp [kas, h9, w_1]⟩) rfl (Nat.le_of_ble_eq_true rfl) dX6_aside_8 (fun J_8 h_8 => ?_)
  obtain ⟨rfl, w_8⟩ := h_8
  refine g_aload_n hX 0 rfl dX6_aside_11 rfl ?_
  refine cg_X6_player hX (by decide) rfl q_inX6 q_w1 rfl dX6_aside_12 ?_
  refine cg_X2_shift hX (by decide) rfl q_inX2 q_w2 dX6_aside_15 ?_
  refine g_istore_n hX [(2, .int (I 3 7)), (0, .ref (ad 0)), (1, .int t)] rfl dX6_aside_18 rfl (by decide) ?_
  refine g_aload_n hX 1 rfl dX6_aside_19 rfl ?_
  refine cg_X6_player hX (by decide) rfl q_inX6 q_w1 rfl dX6_aside_20 ?_
  refine g_iload_n hX 2 rfl dX6_aside_23 rfl ?_
  refine cp_X2_shift hX (by decide) rfl q_inX2 q_w2 dX6_aside_24 ?_
  refine g_iload_n hX 0 rfl dX6_aside_27 rfl ?_
  refine t_iret hX hE dX6_aside_28 (Nat.le_of_ble_eq_true rfl) (Nat.le_of_ble_eq_true rfl) ?_
  exact ⟨_, rfl, by simp [kas, w_1, w_8], rfl, rfl⟩
abbrev rm_X6_isPlaying : Room := { frames := 1, cells := 0, slots := 0, locals := 20 }
theorem hd_X6_isPlaying : yX6_isPlaying.cls = RX6 ∧ yX6_isPlaying.cls ≠ "java/lang/invoke/MethodHandle" ∧ yX6_isPlaying.cls ≠ "java/lang/invoke/VarHandle" ∧ (parseMethodDescriptor yX6_isPlaying.desc).map (fun d => d.parameters.length) = some 0 := by decide +kernel
set_option maxRecDepth 100000 in
set_option maxHeartbeats 4000000 in
theorem k_X6_isPlaying {D : va_G} {dT : Nat → ClassId} {ad : Nat → Nat} (I : Nat → Nat → Int32) : KI yX6_isPlaying wsX6_isPlaying rm_X6_isPlaying D dT ad I [.ref (ad 0)] (fun q J => I = J ∧ isB I = q) := by
  intro l9
  refine ci_of (own := RX6) (cc := cX6_isPlaying) (maxL := 1) (some .boolean) [(0, .ref (ad 0))] (by decide) rfl rfl rfl (Nat.le_of_ble_eq_true rfl) ?_
  intro X hX hE hN
  have q_w1 : Cond.fieldLink RX6 25 "Perforatum" "player" "LPerforatum$Player;" ∈ wsX6_isPlaying := List.mem_of_getElem? (i := 1) rfl
  have q_inX6 : ∀ w ∈ wsX60, w ∈ wsX6_isPlaying := by decide +kernel
  refine g_aload_n hX 0 rfl dX6_isPlaying_0 rfl ?_
  refine cg_X6_player hX (by decide) rfl q_inX6 q_w1 rfl dX6_isPlaying_1 ?_
  refine c_callI_V hX [] 6 (by decide) rfl (by decide) rfl (k_X2_isBusy I ) gX6_isPlaying_X2_isBusy rfl rfl rfl hd_X2_isBusy ⟨Nat.le_of_ble_eq_true rfl, Nat.le_of_ble_eq_true rfl⟩ ⟨Nat.zero_le _, Nat.zero_le _⟩ rfl (Nat.le_of_ble_eq_true rfl) dX6_isPlaying_4 (fun r_4 J_4 h_4 => ?_)
  obtain ⟨rfl, rfl⟩ := h_4
  refine g_zret hX (nz_isB _) hE dX6_isPlaying_7 (by omega) (by omega) ?_
  exact ⟨_, rfl, rfl, rfl⟩
abbrev rm_X6_row : Room := { frames := 7, cells := 1, slots := 6, locals := 102 }
theorem hd_X6_row : yX6_row.cls = RX6 ∧ yX6_row.cls ≠ "java/lang/invoke/MethodHandle" ∧ yX6_row.cls ≠ "java/lang/invoke/VarHandle" ∧ (parseMethodDescriptor yX6_row.desc).map (fun d => d.parameters.length) = some 0 := by decide +kernel
set_option maxRecDepth 100000 in
set_option maxHeartbeats 4000000 in
theorem k_X6_row {D : va_G} {dT : Nat → ClassId} {ad : Nat → Nat} (I : Nat → Nat → Int32) : KTI yX6_row wsX6_row rm_X6_row D dT ad I [.ref (ad 0)] 1 6 (fun q J => kpl I = 0 ∧ I = J ∧ I 3 4 = q) (fun E => (E = xIS ∧ (kpl I) = 1)) := by
  intro l9 hl9
  refine ti_of hl9 (own := RX6) (cc := cX6_row) (maxL := 1) (some .int) [(0, .ref (ad 0))] (by decide) rfl rfl rfl (Nat.le_of_ble_eq_true rfl) ?_
  intro X hX hE hN
  have hQ := FI.x hE
  have q_w1 : Cond.fieldLink RX6 25 "Perforatum" "player" "LPerforatum$Player;" ∈ wsX6_row := List.mem_of_getElem? (i := 1) rfl
  have q_inX6 : ∀ w ∈ wsX60, w ∈ wsX6_row := by decide +kernel
  have q_w2 : Cond.fieldLink RX6 217 "Perforatum$Player" "nextRow" "I" ∈ wsX6_row := List.mem_of_getElem? (i := 2) rfl
  have q_inX2 : ∀ w ∈ wsX20, w ∈ wsX6_row := by decide +kernel
  refine g_aload_n hX 0 rfl dX6_row_0 rfl ?_
  refine ct_callV_V hX hQ [] 10 (by decide) rfl (by decide) rfl (k_X6_demandPlaying I ) gX6_row_X6_demandPlaying rfl rfl rfl hd_X6_demandPlaying ⟨Nat.le_of_ble_eq_true rfl, Nat.le_of_ble_eq_true rfl⟩ ⟨Nat.le_of_ble_eq_true rfl, Nat.le_of_ble_eq_true rfl⟩ (Nat.le_of_ble_eq_true rfl) (Nat.le_of_ble_eq_true rfl) (fun E h9 => by obtain ⟨rfl, h9⟩ := h9; exact ⟨rfl, by simp [kpl, h9]⟩) rfl (Nat.le_of_ble_eq_true rfl) dX6_row_1 (fun J_1 h_1 => ?_)
  obtain ⟨rfl, w_1⟩ := h_1
  refine g_aload_n hX 0 rfl dX6_row_4 rfl ?_
  refine cg_X6_player hX (by decide) rfl q_inX6 q_w1 rfl dX6_row_5 ?_
  refine cg_X2_nextRow hX (by decide) rfl q_inX2 q_w2 dX6_row_8 ?_
  refine t_iret hX hE dX6_row_11 (Nat.le_of_ble_eq_true rfl) (Nat.le_of_ble_eq_true rfl) ?_
  exact ⟨_, rfl, by simp [kpl, w_1], rfl, rfl⟩
abbrev rm_X6_suction : Room := { frames := 7, cells := 1, slots := 6, locals := 102 }
theorem hd_X6_suction : yX6_suction.cls = RX6 ∧ yX6_suction.cls ≠ "java/lang/invoke/MethodHandle" ∧ yX6_suction.cls ≠ "java/lang/invoke/VarHandle" ∧ (parseMethodDescriptor yX6_suction.desc).map (fun d => d.parameters.length) = some 0 := by decide +kernel
set_option maxRecDepth 100000 in
set_option maxHeartbeats 4000000 in
theorem k_X6_suction {D : va_G} {dT : Nat → ClassId} {ad : Nat → Nat} (I : Nat → Nat → Int32) : KTI yX6_suction wsX6_suction rm_X6_suction D dT ad I [.ref (ad 0)] 1 6 (fun q J => kpl I = 0 ∧ I = J ∧ I 3 5 = q) (fun E => (E = xIS ∧ (kpl I) = 1)) := by
  intro l9 hl9
  refine ti_of hl9 (own := RX6) (cc := cX6_suction) (maxL := 1) (some .int) [(0, .ref (ad 0))] (by decide) rfl rfl rfl (Nat.le_of_ble_eq_true rfl) ?_
  intro X hX hE hN
  have hQ := FI.x hE
  have q_w1 : Cond.fieldLink RX6 25 "Perforatum" "player" "LPerforatum$Player;" ∈ wsX6_suction := List.mem_of_getElem? (i := 1) rfl
  have q_inX6 : ∀ w ∈ wsX60, w ∈ wsX6_suction := by decide +kernel
  have q_w2 : Cond.fieldLink RX6 220 "Perforatum$Player" "vacuum" "I" ∈ wsX6_suction := List.mem_of_getElem? (i := 2) rfl
  have q_inX2 : ∀ w ∈ wsX20, w ∈ wsX6_suction := by decide +kernel
  refine g_aload_n hX 0 rfl dX6_suction_0 rfl ?_
  refine ct_callV_V hX hQ [] 10 (by decide) rfl (by decide) rfl (k_X6_demandPlaying I ) gX6_suction_X6_demandPlaying rfl rfl rfl hd_X6_demandPlaying ⟨Nat.le_of_ble_eq_true rfl, Nat.le_of_ble_eq_true rfl⟩ ⟨Nat.le_of_ble_eq_true rfl, Nat.le_of_ble_eq_true rfl⟩ (Nat.le_of_ble_eq_true rfl) (Nat.le_of_ble_eq_true rfl) (fun E h9 => by obtain ⟨rfl, h9⟩ := h9; exact ⟨rfl, by simp [kpl, h9]⟩) rfl (Nat.le_of_ble_eq_true rfl) dX6_suction_1 (fun J_1 h_1 => ?_)
  obtain ⟨rfl, w_1⟩ := h_1
  refine g_aload_n hX 0 rfl dX6_suction_4 rfl ?_
  refine cg_X6_player hX (by decide) rfl q_inX6 q_w1 rfl dX6_suction_5 ?_
  refine cg_X2_vacuum hX (by decide) rfl q_inX2 q_w2 dX6_suction_8 ?_
  refine t_iret hX hE dX6_suction_11 (Nat.le_of_ble_eq_true rfl) (Nat.le_of_ble_eq_true rfl) ?_
  exact ⟨_, rfl, by simp [kpl, w_1], rfl, rfl⟩
abbrev rm_X6_level : Room := { frames := 7, cells := 1, slots := 6, locals := 102 }
theorem hd_X6_level : yX6_level.cls = RX6 ∧ yX6_level.cls ≠ "java/lang/invoke/MethodHandle" ∧ yX6_level.cls ≠ "java/lang/invoke/VarHandle" ∧ (parseMethodDescriptor yX6_level.desc).map (fun d => d.parameters.length) = some 0 := by decide +kernel
set_option maxRecDepth 100000 in
set_option maxHeartbeats 4000000 in
theorem k_X6_level {D : va_G} {dT : Nat → ClassId} {ad : Nat → Nat} (I : Nat → Nat → Int32) : KTI yX6_level wsX6_level rm_X6_level D dT ad I [.ref (ad 0)] 1 6 (fun q J => kpl I = 0 ∧ I = J ∧ I 3 6 = q) (fun E => (E = xIS ∧ (kpl I) = 1)) := by
  intro l9 hl9
  refine ti_of hl9 (own := RX6) (cc := cX6_level) (maxL := 1) (some .int) [(0, .ref (ad 0))] (by decide) rfl rfl rfl (Nat.le_of_ble_eq_true rfl) ?_
  intro X hX hE hN
  have hQ := FI.x hE
  have q_w1 : Cond.fieldLink RX6 25 "Perforatum" "player" "LPerforatum$Player;" ∈ wsX6_level := List.mem_of_getElem? (i := 1) rfl
  have q_inX6 : ∀ w ∈ wsX60, w ∈ wsX6_level := by decide +kernel
  have q_w2 : Cond.fieldLink RX6 223 "Perforatum$Player" "strength" "I" ∈ wsX6_level := List.mem_of_getElem? (i := 2) rfl
  have q_inX2 : ∀ w ∈ wsX20, w ∈ wsX6_level := by decide +kernel
  refine g_aload_n hX 0 rfl dX6_level_0 rfl ?_
  refine ct_callV_V hX hQ [] 10 (by decide) rfl (by decide) rfl (k_X6_demandPlaying I ) gX6_level_X6_demandPlaying rfl rfl rfl hd_X6_demandPlaying ⟨Nat.le_of_ble_eq_true rfl, Nat.le_of_ble_eq_true rfl⟩ ⟨Nat.le_of_ble_eq_true rfl, Nat.le_of_ble_eq_true rfl⟩ (Nat.le_of_ble_eq_true rfl) (Nat.le_of_ble_eq_true rfl) (fun E h9 => by obtain ⟨rfl, h9⟩ := h9; exact ⟨rfl, by simp [kpl, h9]⟩) rfl (Nat.le_of_ble_eq_true rfl) dX6_level_1 (fun J_1 h_1 => ?_)
  obtain ⟨rfl, w_1⟩ := h_1
  refine g_aload_n hX 0 rfl dX6_level_4 rfl ?_
  refine cg_X6_player hX (by decide) rfl q_inX6 q_w1 rfl dX6_level_5 ?_
  refine cg_X2_strength hX (by decide) rfl q_inX2 q_w2 dX6_level_8 ?_
  refine t_iret hX hE dX6_level_11 (Nat.le_of_ble_eq_true rfl) (Nat.le_of_ble_eq_true rfl) ?_
  exact ⟨_, rfl, by simp [kpl, w_1], rfl, rfl⟩
abbrev rm_X6_isOpen : Room := { frames := 7, cells := 2, slots := 12, locals := 103 }
theorem hd_X6_isOpen : yX6_isOpen.cls = RX6 ∧ yX6_isOpen.cls ≠ "java/lang/invoke/MethodHandle" ∧ yX6_isOpen.cls ≠ "java/lang/invoke/VarHandle" ∧ (parseMethodDescriptor yX6_isOpen.desc).map (fun d => d.parameters.length) = some 1 := by decide +kernel
set_option maxRecDepth 100000 in
set_option maxHeartbeats 4000000 in
theorem k_X6_isOpen {D : va_G} {dT : Nat → ClassId} {ad : Nat → Nat} (I : Nat → Nat → Int32) (hv01 : ∀ v, v < 12 → I (24 + v) 4 = 0 ∨ I (24 + v) 4 = 1) (n : Int32) : KTI yX6_isOpen wsX6_isOpen rm_X6_isOpen D dT ad I [.ref (ad 0), .int n] 2 12 (fun q J => kop I n = 0 ∧ I = J ∧ I (24 + n.toNatClampNeg) 4 = q) (fun E => (E = xIS ∧ (kop I n) = 1) ∨ (E = xIO ∧ (kop I n) = 2)) := by
  intro l9 hl9
  refine ti_of hl9 (own := RX6) (cc := cX6_isOpen) (maxL := 2) (some .boolean) [(0, .ref (ad 0)), (1, .int n)] (by decide) rfl rfl rfl (Nat.le_of_ble_eq_true rfl) ?_
  intro X hX hE hN
  have hQ := FI.x hE
  have q_w1 : Cond.fieldLink RX6 226 "Perforatum$Valve" "stands" "Z" ∈ wsX6_isOpen := List.mem_of_getElem? (i := 1) rfl
  have q_inX5 : ∀ w ∈ wsX50, w ∈ wsX6_isOpen := by decide +kernel
  refine g_aload_n hX 0 rfl dX6_isOpen_0 rfl ?_
  refine ct_callV_V hX hQ [] 10 (by decide) rfl (by decide) rfl (k_X6_demandPlaying I ) gX6_isOpen_X6_demandPlaying rfl rfl rfl hd_X6_demandPlaying ⟨Nat.le_of_ble_eq_true rfl, Nat.le_of_ble_eq_true rfl⟩ ⟨Nat.le_of_ble_eq_true rfl, Nat.le_of_ble_eq_true rfl⟩ (Nat.le_of_ble_eq_true rfl) (Nat.le_of_ble_eq_true rfl) (fun E h9 => by obtain ⟨rfl, h9⟩ := h9; exact ⟨rfl, by simp [kop, h9]⟩) rfl (Nat.le_of_ble_eq_true rfl) dX6_isOpen_1 (fun J_1 h_1 => ?_)
  obtain ⟨rfl, w_1⟩ := h_1
  refine g_aload_n hX 0 rfl dX6_isOpen_4 rfl ?_
  refine g_iload_n hX 1 rfl dX6_isOpen_5 rfl ?_
  refine ct_callQ_V hX hQ [.int n] 10 (by decide) rfl (by decide) rfl (k_X6_demandValve I n) gX6_isOpen_X6_demandValve rfl rfl rfl hd_X6_demandValve ⟨Nat.le_of_ble_eq_true rfl, Nat.le_of_ble_eq_true rfl⟩ ⟨Nat.le_of_ble_eq_true rfl, Nat.le_of_ble_eq_true rfl⟩ (Nat.le_of_ble_eq_true rfl) (Nat.le_of_ble_eq_true rfl) (fun E h9 => by obtain ⟨rfl, h9⟩ := h9; exact ⟨rfl, by simp [kop, h9, w_1]⟩) rfl (Nat.le_of_ble_eq_true rfl) dX6_isOpen_6 (fun r_6 J_6 h_6 => ?_)
  obtain ⟨rfl, rfl, hi_6, vk_6⟩ := h_6
  refine g_stk (st2 := .ref (ad (24 + n.toNatClampNeg)) :: []) rfl ?_
  refine cg_X5_stands hX (by omega) (cK_v hi_6) q_inX5 q_w1 dX6_isOpen_9 ?_
  refine t_zret hX (nz_01 (hv01 _ hi_6)) hE dX6_isOpen_12 (Nat.le_of_ble_eq_true rfl) (Nat.le_of_ble_eq_true rfl) ?_
  exact ⟨_, rfl, by simp [kop, w_1, vk_6], rfl, rfl⟩
abbrev rm_X6_isHeard : Room := { frames := 7, cells := 2, slots := 12, locals := 103 }
theorem hd_X6_isHeard : yX6_isHeard.cls = RX6 ∧ yX6_isHeard.cls ≠ "java/lang/invoke/MethodHandle" ∧ yX6_isHeard.cls ≠ "java/lang/invoke/VarHandle" ∧ (parseMethodDescriptor yX6_isHeard.desc).map (fun d => d.parameters.length) = some 1 := by decide +kernel
set_option maxRecDepth 100000 in
set_option maxHeartbeats 4000000 in
theorem k_X6_isHeard {D : va_G} {dT : Nat → ClassId} {ad : Nat → Nat} (I : Nat → Nat → Int32) (n : Int32) : KTI yX6_isHeard wsX6_isHeard rm_X6_isHeard D dT ad I [.ref (ad 0), .int n] 2 12 (fun q J => kop I n = 0 ∧ I = J ∧ iau I n.toNatClampNeg = q) (fun E => (E = xIS ∧ (kop I n) = 1) ∨ (E = xIO ∧ (kop I n) = 2)) := by
  intro l9 hl9
  refine ti_of hl9 (own := RX6) (cc := cX6_isHeard) (maxL := 2) (some .boolean) [(0, .ref (ad 0)), (1, .int n)] (by decide) rfl rfl rfl (Nat.le_of_ble_eq_true rfl) ?_
  intro X hX hE hN
  have hQ := FI.x hE
  refine g_aload_n hX 0 rfl dX6_isHeard_0 rfl ?_
  refine ct_callV_V hX hQ [] 10 (by decide) rfl (by decide) rfl (k_X6_demandPlaying I ) gX6_isHeard_X6_demandPlaying rfl rfl rfl hd_X6_demandPlaying ⟨Nat.le_of_ble_eq_true rfl, Nat.le_of_ble_eq_true rfl⟩ ⟨Nat.le_of_ble_eq_true rfl, Nat.le_of_ble_eq_true rfl⟩ (Nat.le_of_ble_eq_true rfl) (Nat.le_of_ble_eq_true rfl) (fun E h9 => by obtain ⟨rfl, h9⟩ := h9; exact ⟨rfl, by simp [kop, h9]⟩) rfl (Nat.le_of_ble_eq_true rfl) dX6_isHeard_1 (fun J_1 h_1 => ?_)
  obtain ⟨rfl, w_1⟩ := h_1
  refine g_aload_n hX 0 rfl dX6_isHeard_4 rfl ?_
  refine g_iload_n hX 1 rfl dX6_isHeard_5 rfl ?_
  refine ct_callQ_V hX hQ [.int n] 10 (by decide) rfl (by decide) rfl (k_X6_demandValve I n) gX6_isHeard_X6_demandValve rfl rfl rfl hd_X6_demandValve ⟨Nat.le_of_ble_eq_true rfl, Nat.le_of_ble_eq_true rfl⟩ ⟨Nat.le_of_ble_eq_true rfl, Nat.le_of_ble_eq_true rfl⟩ (Nat.le_of_ble_eq_true rfl) (Nat.le_of_ble_eq_true rfl) (fun E h9 => by obtain ⟨rfl, h9⟩ := h9; exact ⟨rfl, by simp [kop, h9, w_1]⟩) rfl (Nat.le_of_ble_eq_true rfl) dX6_isHeard_6 (fun r_6 J_6 h_6 => ?_)
  obtain ⟨rfl, rfl, hi_6, vk_6⟩ := h_6
  refine g_stk (st2 := .ref (ad (24 + n.toNatClampNeg)) :: []) rfl ?_
  refine c_callI_V hX [] 9 (by omega) (cK_v hi_6) (by decide) rfl (k_X5_isAudible I n.toNatClampNeg hi_6) gX6_isHeard_X5_isAudible rfl rfl rfl hd_X5_isAudible ⟨Nat.le_of_ble_eq_true rfl, Nat.le_of_ble_eq_true rfl⟩ ⟨Nat.le_of_ble_eq_true rfl, Nat.le_of_ble_eq_true rfl⟩ rfl (Nat.le_of_ble_eq_true rfl) dX6_isHeard_9 (fun r_9 J_9 h_9 => ?_)
  obtain ⟨rfl, rfl⟩ := h_9
  refine t_zret hX (nz_iau _ _) hE dX6_isHeard_12 (Nat.le_of_ble_eq_true rfl) (Nat.le_of_ble_eq_true rfl) ?_
  exact ⟨_, rfl, by simp [kop, w_1, vk_6], rfl, rfl⟩
abbrev rm_X6_soundings : Room := { frames := 0, cells := 0, slots := 0, locals := 0 }
theorem hd_X6_soundings : yX6_soundings.cls = RX6 ∧ yX6_soundings.cls ≠ "java/lang/invoke/MethodHandle" ∧ yX6_soundings.cls ≠ "java/lang/invoke/VarHandle" ∧ (parseMethodDescriptor yX6_soundings.desc).map (fun d => d.parameters.length) = some 0 := by decide +kernel
set_option maxRecDepth 100000 in
set_option maxHeartbeats 4000000 in
theorem k_X6_soundings {D : va_G} {dT : Nat → ClassId} {ad : Nat → Nat} (I : Nat → Nat → Int32) : KI yX6_soundings wsX6_soundings rm_X6_soundings D dT ad I [.ref (ad 0)] (fun q J => I = J ∧ I 17 6 = q) := by
  intro l9
  refine ci_of (own := RX6) (cc := cX6_soundings) (maxL := 1) (some .int) [(0, .ref (ad 0))] (by decide) rfl rfl rfl (Nat.le_of_ble_eq_true rfl) ?_
  intro X hX hE hN
  have q_w1 : Cond.fieldLink RX6 43 "Perforatum" "log" "LPerforatum$SoundingLog;" ∈ wsX6_soundings := List.mem_of_getElem? (i := 1) rfl
  have q_inX6 : ∀ w ∈ wsX60, w ∈ wsX6_soundings := by decide +kernel
  have q_w2 : Cond.fieldLink RX6 233 "Perforatum$SoundingLog" "count" "I" ∈ wsX6_soundings := List.mem_of_getElem? (i := 2) rfl
  have q_inX4 : ∀ w ∈ wsX40, w ∈ wsX6_soundings := by decide +kernel
  refine g_aload_n hX 0 rfl dX6_soundings_0 rfl ?_
  refine cg_X6_log hX (by decide) rfl q_inX6 q_w1 rfl dX6_soundings_1 ?_
  refine cg_X4_count hX (by decide) rfl q_inX4 q_w2 dX6_soundings_4 ?_
  refine g_iret hX hE dX6_soundings_7 (by omega) (by omega) ?_
  exact ⟨_, rfl, rfl, rfl⟩
abbrev rm_X6_sounding : Room := { frames := 6, cells := 1, slots := 6, locals := 82 }
theorem hd_X6_sounding : yX6_sounding.cls = RX6 ∧ yX6_sounding.cls ≠ "java/lang/invoke/MethodHandle" ∧ yX6_sounding.cls ≠ "java/lang/invoke/VarHandle" ∧ (parseMethodDescriptor yX6_sounding.desc).map (fun d => d.parameters.length) = some 2 := by decide +kernel
set_option maxRecDepth 100000 in
set_option maxHeartbeats 4000000 in
theorem k_X6_sounding {D : va_G} {dT : Nat → ClassId} {ad : Nat → Nat} (I : Nat → Nat → Int32) (x w : Int32) : KTI yX6_sounding wsX6_sounding rm_X6_sounding D dT ad I [.ref (ad 0), .int x, .int w] 1 6 (fun q J => kso I x w = 0 ∧ I = J ∧ ltell I x w = q) (fun E => (E = xIA ∧ (kso I x w) = 1) ∨ (E = xNS ∧ (kso I x w) = 2)) := by
  intro l9 hl9
  refine ti_of hl9 (own := RX6) (cc := cX6_sounding) (maxL := 3) (some .int) [(0, .ref (ad 0)), (1, .int x), (2, .int w)] (by decide) rfl rfl rfl (Nat.le_of_ble_eq_true rfl) ?_
  intro X hX hE hN
  have hQ := FI.x hE
  have q_w5 : Cond.fieldLink RX6 43 "Perforatum" "log" "LPerforatum$SoundingLog;" ∈ wsX6_sounding := List.mem_of_getElem? (i := 5) rfl
  have q_inX6 : ∀ w ∈ wsX60, w ∈ wsX6_sounding := by decide +kernel
  have q_w3 : Cond.classLink RX6 100 "java/util/NoSuchElementException" ∈ wsX6_sounding := List.mem_of_getElem? (i := 3) rfl
  have q_w4 : Cond.initialized "java/util/NoSuchElementException" ∈ wsX6_sounding := List.mem_of_getElem? (i := 4) rfl
  have q_hat104 : ∀ w ∈ (vx_atS RX6 104 "java/util/NoSuchElementException" ["java/lang/RuntimeException", "java/lang/Exception"]).filter goodWord, w ∈ wsX6_sounding := by decide +kernel
  have q_w1 : Cond.classLink RX6 142 "java/lang/IllegalArgumentException" ∈ wsX6_sounding := List.mem_of_getElem? (i := 1) rfl
  have q_w2 : Cond.initialized "java/lang/IllegalArgumentException" ∈ wsX6_sounding := List.mem_of_getElem? (i := 2) rfl
  have q_hat146 : ∀ w ∈ (vx_atS RX6 146 "java/lang/IllegalArgumentException" ["java/lang/RuntimeException", "java/lang/Exception"]).filter goodWord, w ∈ wsX6_sounding := by decide +kernel
  refine g_iload_n hX 2 rfl dX6_sounding_0 rfl ?_
  refine g_bipush hX (110) dX6_sounding_1 rfl ?_
  refine g_icmp_eq (tgt := 40) hX dX6_sounding_3 (by decide) (fun c_3 => ?_) (fun c_3 => ?_)
  · refine g_aload_n hX 0 rfl dX6_sounding_40 rfl ?_
    refine cg_X6_log hX (by decide) rfl q_inX6 q_w5 rfl dX6_sounding_41 ?_
    refine g_iload_n hX 1 rfl dX6_sounding_44 rfl ?_
    refine c_callI_V hX [.int x] 8 (by decide) rfl (by decide) rfl (k_X4_has I x) gX6_sounding_X4_has rfl rfl rfl hd_X4_has ⟨Nat.le_of_ble_eq_true rfl, Nat.le_of_ble_eq_true rfl⟩ ⟨Nat.zero_le _, Nat.zero_le _⟩ rfl (Nat.le_of_ble_eq_true rfl) dX6_sounding_45 (fun r_45 J_45 h_45 => ?_)
    obtain ⟨rfl, rfl⟩ := h_45
    refine g_if_ne (tgt := 61) hX dX6_sounding_48 (by decide) (fun c_48 => ?_) (fun c_48 => ?_)
    · refine g_aload_n hX 0 rfl dX6_sounding_61 rfl ?_
      refine cg_X6_log hX (by decide) rfl q_inX6 q_w5 rfl dX6_sounding_62 ?_
      refine g_iload_n hX 1 rfl dX6_sounding_65 rfl ?_
      refine g_iload_n hX 2 rfl dX6_sounding_66 rfl ?_
      refine c_callI_V hX [.int x, .int w] 8 (by decide) rfl (by decide) rfl (k_X4_tell I x w) gX6_sounding_X4_tell rfl rfl rfl hd_X4_tell ⟨Nat.le_of_ble_eq_true rfl, Nat.le_of_ble_eq_true rfl⟩ ⟨Nat.zero_le _, Nat.zero_le _⟩ rfl (Nat.le_of_ble_eq_true rfl) dX6_sounding_67 (fun r_67 J_67 h_67 => ?_)
      obtain ⟨rfl, rfl⟩ := h_67
      refine t_iret hX hE dX6_sounding_70 (Nat.le_of_ble_eq_true rfl) (Nat.le_of_ble_eq_true rfl) ?_
      have hw5 : w = 110 ∨ w = 111 ∨ w = 102 ∨ w = 108 ∨ w = 118 := Or.inl c_3
      exact ⟨_, rfl, by rw [kso, if_pos hw5, if_neg c_48], rfl, rfl⟩
    · refine t_throwS hX hQ (text := "no such sounding") "java/util/NoSuchElementException" rfl (by decide +kernel) q_w3 q_w4 (by decide) q_hat104 hat_104 hgd_104 dX6_sounding_51 dX6_sounding_54 dX6_sounding_55 dX6_sounding_57 dX6_sounding_60 (Nat.le_of_ble_eq_true rfl) (Nat.le_of_ble_eq_true rfl) (Nat.le_of_ble_eq_true rfl) (Nat.le_of_ble_eq_true rfl) (Nat.le_of_ble_eq_true rfl) (Nat.le_of_ble_eq_true rfl) ?_
      refine ⟨rfl, ?_⟩
      have hw5 : w = 110 ∨ w = 111 ∨ w = 102 ∨ w = 108 ∨ w = 118 := Or.inl c_3
      exact Or.inr ⟨rfl, by rw [kso, if_pos hw5, if_pos c_48]⟩
  · refine g_iload_n hX 2 rfl dX6_sounding_6 rfl ?_
    refine g_bipush hX (111) dX6_sounding_7 rfl ?_
    refine g_icmp_eq (tgt := 40) hX dX6_sounding_9 (by decide) (fun c_9 => ?_) (fun c_9 => ?_)
    · refine g_aload_n hX 0 rfl dX6_sounding_40 rfl ?_
      refine cg_X6_log hX (by decide) rfl q_inX6 q_w5 rfl dX6_sounding_41 ?_
      refine g_iload_n hX 1 rfl dX6_sounding_44 rfl ?_
      refine c_callI_V hX [.int x] 8 (by decide) rfl (by decide) rfl (k_X4_has I x) gX6_sounding_X4_has rfl rfl rfl hd_X4_has ⟨Nat.le_of_ble_eq_true rfl, Nat.le_of_ble_eq_true rfl⟩ ⟨Nat.zero_le _, Nat.zero_le _⟩ rfl (Nat.le_of_ble_eq_true rfl) dX6_sounding_45 (fun r_45 J_45 h_45 => ?_)
      obtain ⟨rfl, rfl⟩ := h_45
      refine g_if_ne (tgt := 61) hX dX6_sounding_48 (by decide) (fun c_48 => ?_) (fun c_48 => ?_)
      · refine g_aload_n hX 0 rfl dX6_sounding_61 rfl ?_
        refine cg_X6_log hX (by decide) rfl q_inX6 q_w5 rfl dX6_sounding_62 ?_
        refine g_iload_n hX 1 rfl dX6_sounding_65 rfl ?_
        refine g_iload_n hX 2 rfl dX6_sounding_66 rfl ?_
        refine c_callI_V hX [.int x, .int w] 8 (by decide) rfl (by decide) rfl (k_X4_tell I x w) gX6_sounding_X4_tell rfl rfl rfl hd_X4_tell ⟨Nat.le_of_ble_eq_true rfl, Nat.le_of_ble_eq_true rfl⟩ ⟨Nat.zero_le _, Nat.zero_le _⟩ rfl (Nat.le_of_ble_eq_true rfl) dX6_sounding_67 (fun r_67 J_67 h_67 => ?_)
        obtain ⟨rfl, rfl⟩ := h_67
        refine t_iret hX hE dX6_sounding_70 (Nat.le_of_ble_eq_true rfl) (Nat.le_of_ble_eq_true rfl) ?_
        have hw5 : w = 110 ∨ w = 111 ∨ w = 102 ∨ w = 108 ∨ w = 118 := Or.inr (Or.inl c_9)
        exact ⟨_, rfl, by rw [kso, if_pos hw5, if_neg c_48], rfl, rfl⟩
      · refine t_throwS hX hQ (text := "no such sounding") "java/util/NoSuchElementException" rfl (by decide +kernel) q_w3 q_w4 (by decide) q_hat104 hat_104 hgd_104 dX6_sounding_51 dX6_sounding_54 dX6_sounding_55 dX6_sounding_57 dX6_sounding_60 (Nat.le_of_ble_eq_true rfl) (Nat.le_of_ble_eq_true rfl) (Nat.le_of_ble_eq_true rfl) (Nat.le_of_ble_eq_true rfl) (Nat.le_of_ble_eq_true rfl) (Nat.le_of_ble_eq_true rfl) ?_
        refine ⟨rfl, ?_⟩
        have hw5 : w = 110 ∨ w = 111 ∨ w = 102 ∨ w = 108 ∨ w = 118 := Or.inr (Or.inl c_9)
        exact Or.inr ⟨rfl, by rw [kso, if_pos hw5, if_pos c_48]⟩
    · refine g_iload_n hX 2 rfl dX6_sounding_12 rfl ?_
      refine g_bipush hX (102) dX6_sounding_13 rfl ?_
      refine g_icmp_eq (tgt := 40) hX dX6_sounding_15 (by decide) (fun c_15 => ?_) (fun c_15 => ?_)
      · refine g_aload_n hX 0 rfl dX6_sounding_40 rfl ?_
        refine cg_X6_log hX (by decide) rfl q_inX6 q_w5 rfl dX6_sounding_41 ?_
        refine g_iload_n hX 1 rfl dX6_sounding_44 rfl ?_
        refine c_callI_V hX [.int x] 8 (by decide) rfl (by decide) rfl (k_X4_has I x) gX6_sounding_X4_has rfl rfl rfl hd_X4_has ⟨Nat.le_of_ble_eq_true rfl, Nat.le_of_ble_eq_true rfl⟩ ⟨Nat.zero_le _, Nat.zero_le _⟩ rfl (Nat.le_of_ble_eq_true rfl) dX6_sounding_45 (fun r_45 J_45 h_45 => ?_)
        obtain ⟨rfl, rfl⟩ := h_45
        refine g_if_ne (tgt := 61) hX dX6_sounding_48 (by decide) (fun c_48 => ?_) (fun c_48 => ?_)
        · refine g_aload_n hX 0 rfl dX6_sounding_61 rfl ?_
          refine cg_X6_log hX (by decide) rfl q_inX6 q_w5 rfl dX6_sounding_62 ?_
          refine g_iload_n hX 1 rfl dX6_sounding_65 rfl ?_
          refine g_iload_n hX 2 rfl dX6_sounding_66 rfl ?_
          refine c_callI_V hX [.int x, .int w] 8 (by decide) rfl (by decide) rfl (k_X4_tell I x w) gX6_sounding_X4_tell rfl rfl rfl hd_X4_tell ⟨Nat.le_of_ble_eq_true rfl, Nat.le_of_ble_eq_true rfl⟩ ⟨Nat.zero_le _, Nat.zero_le _⟩ rfl (Nat.le_of_ble_eq_true rfl) dX6_sounding_67 (fun r_67 J_67 h_67 => ?_)
          obtain ⟨rfl, rfl⟩ := h_67
          refine t_iret hX hE dX6_sounding_70 (Nat.le_of_ble_eq_true rfl) (Nat.le_of_ble_eq_true rfl) ?_
          have hw5 : w = 110 ∨ w = 111 ∨ w = 102 ∨ w = 108 ∨ w = 118 := Or.inr (Or.inr (Or.inl c_15))
          exact ⟨_, rfl, by rw [kso, if_pos hw5, if_neg c_48], rfl, rfl⟩
        · refine t_throwS hX hQ (text := "no such sounding") "java/util/NoSuchElementException" rfl (by decide +kernel) q_w3 q_w4 (by decide) q_hat104 hat_104 hgd_104 dX6_sounding_51 dX6_sounding_54 dX6_sounding_55 dX6_sounding_57 dX6_sounding_60 (Nat.le_of_ble_eq_true rfl) (Nat.le_of_ble_eq_true rfl) (Nat.le_of_ble_eq_true rfl) (Nat.le_of_ble_eq_true rfl) (Nat.le_of_ble_eq_true rfl) (Nat.le_of_ble_eq_true rfl) ?_
          refine ⟨rfl, ?_⟩
          have hw5 : w = 110 ∨ w = 111 ∨ w = 102 ∨ w = 108 ∨ w = 118 := Or.inr (Or.inr (Or.inl c_15))
          exact Or.inr ⟨rfl, by rw [kso, if_pos hw5, if_pos c_48]⟩
      · refine g_iload_n hX 2 rfl dX6_sounding_18 rfl ?_
        refine g_bipush hX (108) dX6_sounding_19 rfl ?_
        refine g_icmp_eq (tgt := 40) hX dX6_sounding_21 (by decide) (fun c_21 => ?_) (fun c_21 => ?_)
        · refine g_aload_n hX 0 rfl dX6_sounding_40 rfl ?_
          refine cg_X6_log hX (by decide) rfl q_inX6 q_w5 rfl dX6_sounding_41 ?_
          refine g_iload_n hX 1 rfl dX6_sounding_44 rfl ?_
          refine c_callI_V hX [.int x] 8 (by decide) rfl (by decide) rfl (k_X4_has I x) gX6_sounding_X4_has rfl rfl rfl hd_X4_has ⟨Nat.le_of_ble_eq_true rfl, Nat.le_of_ble_eq_true rfl⟩ ⟨Nat.zero_le _, Nat.zero_le _⟩ rfl (Nat.le_of_ble_eq_true rfl) dX6_sounding_45 (fun r_45 J_45 h_45 => ?_)
          obtain ⟨rfl, rfl⟩ := h_45
          refine g_if_ne (tgt := 61) hX dX6_sounding_48 (by decide) (fun c_48 => ?_) (fun c_48 => ?_)
          · refine g_aload_n hX 0 rfl dX6_sounding_61 rfl ?_
            refine cg_X6_log hX (by decide) rfl q_inX6 q_w5 rfl dX6_sounding_62 ?_
            refine g_iload_n hX 1 rfl dX6_sounding_65 rfl ?_
            refine g_iload_n hX 2 rfl dX6_sounding_66 rfl ?_
            refine c_callI_V hX [.int x, .int w] 8 (by decide) rfl (by decide) rfl (k_X4_tell I x w) gX6_sounding_X4_tell rfl rfl rfl hd_X4_tell ⟨Nat.le_of_ble_eq_true rfl, Nat.le_of_ble_eq_true rfl⟩ ⟨Nat.zero_le _, Nat.zero_le _⟩ rfl (Nat.le_of_ble_eq_true rfl) dX6_sounding_67 (fun r_67 J_67 h_67 => ?_)
            obtain ⟨rfl, rfl⟩ := h_67
            refine t_iret hX hE dX6_sounding_70 (Nat.le_of_ble_eq_true rfl) (Nat.le_of_ble_eq_true rfl) ?_
            have hw5 : w = 110 ∨ w = 111 ∨ w = 102 ∨ w = 108 ∨ w = 118 := Or.inr (Or.inr (Or.inr (Or.inl c_21)))
            exact ⟨_, rfl, by rw [kso, if_pos hw5, if_neg c_48], rfl, rfl⟩
          · refine t_throwS hX hQ (text := "no such sounding") "java/util/NoSuchElementException" rfl (by decide +kernel) q_w3 q_w4 (by decide) q_hat104 hat_104 hgd_104 dX6_sounding_51 dX6_sounding_54 dX6_sounding_55 dX6_sounding_57 dX6_sounding_60 (Nat.le_of_ble_eq_true rfl) (Nat.le_of_ble_eq_true rfl) (Nat.le_of_ble_eq_true rfl) (Nat.le_of_ble_eq_true rfl) (Nat.le_of_ble_eq_true rfl) (Nat.le_of_ble_eq_true rfl) ?_
            refine ⟨rfl, ?_⟩
            have hw5 : w = 110 ∨ w = 111 ∨ w = 102 ∨ w = 108 ∨ w = 118 := Or.inr (Or.inr (Or.inr (Or.inl c_21)))
            exact Or.inr ⟨rfl, by rw [kso, if_pos hw5, if_pos c_48]⟩
        · refine g_iload_n hX 2 rfl dX6_sounding_24 rfl ?_
          refine g_bipush hX (118) dX6_sounding_25 rfl ?_
          refine g_icmp_eq (tgt := 40) hX dX6_sounding_27 (by decide) (fun c_27 => ?_) (fun c_27 => ?_)
          · refine g_aload_n hX 0 rfl dX6_sounding_40 rfl ?_
            refine cg_X6_log hX (by decide) rfl q_inX6 q_w5 rfl dX6_sounding_41 ?_
            refine g_iload_n hX 1 rfl dX6_sounding_44 rfl ?_
            refine c_callI_V hX [.int x] 8 (by decide) rfl (by decide) rfl (k_X4_has I x) gX6_sounding_X4_has rfl rfl rfl hd_X4_has ⟨Nat.le_of_ble_eq_true rfl, Nat.le_of_ble_eq_true rfl⟩ ⟨Nat.zero_le _, Nat.zero_le _⟩ rfl (Nat.le_of_ble_eq_true rfl) dX6_sounding_45 (fun r_45 J_45 h_45 => ?_)
            obtain ⟨rfl, rfl⟩ := h_45
            refine g_if_ne (tgt := 61) hX dX6_sounding_48 (by decide) (fun c_48 => ?_) (fun c_48 => ?_)
            · refine g_aload_n hX 0 rfl dX6_sounding_61 rfl ?_
              refine cg_X6_log hX (by decide) rfl q_inX6 q_w5 rfl dX6_sounding_62 ?_
              refine g_iload_n hX 1 rfl dX6_sounding_65 rfl ?_
              refine g_iload_n hX 2 rfl dX6_sounding_66 rfl ?_
              refine c_callI_V hX [.int x, .int w] 8 (by decide) rfl (by decide) rfl (k_X4_tell I x w) gX6_sounding_X4_tell rfl rfl rfl hd_X4_tell ⟨Nat.le_of_ble_eq_true rfl, Nat.le_of_ble_eq_true rfl⟩ ⟨Nat.zero_le _, Nat.zero_le _⟩ rfl (Nat.le_of_ble_eq_true rfl) dX6_sounding_67 (fun r_67 J_67 h_67 => ?_)
              obtain ⟨rfl, rfl⟩ := h_67
              refine t_iret hX hE dX6_sounding_70 (Nat.le_of_ble_eq_true rfl) (Nat.le_of_ble_eq_true rfl) ?_
              have hw5 : w = 110 ∨ w = 111 ∨ w = 102 ∨ w = 108 ∨ w = 118 := Or.inr (Or.inr (Or.inr (Or.inr c_27)))
              exact ⟨_, rfl, by rw [kso, if_pos hw5, if_neg c_48], rfl, rfl⟩
            · refine t_throwS hX hQ (text := "no such sounding") "java/util/NoSuchElementException" rfl (by decide +kernel) q_w3 q_w4 (by decide) q_hat104 hat_104 hgd_104 dX6_sounding_51 dX6_sounding_54 dX6_sounding_55 dX6_sounding_57 dX6_sounding_60 (Nat.le_of_ble_eq_true rfl) (Nat.le_of_ble_eq_true rfl) (Nat.le_of_ble_eq_true rfl) (Nat.le_of_ble_eq_true rfl) (Nat.le_of_ble_eq_true rfl) (Nat.le_of_ble_eq_true rfl) ?_
              refine ⟨rfl, ?_⟩
              have hw5 : w = 110 ∨ w = 111 ∨ w = 102 ∨ w = 108 ∨ w = 118 := Or.inr (Or.inr (Or.inr (Or.inr c_27)))
              exact Or.inr ⟨rfl, by rw [kso, if_pos hw5, if_pos c_48]⟩
          · refine t_throwS hX hQ (text := "a sounding has no such thing") "java/lang/IllegalArgumentException" rfl (by decide +kernel) q_w1 q_w2 (by decide) q_hat146 hat_146 hgd_146 dX6_sounding_30 dX6_sounding_33 dX6_sounding_34 dX6_sounding_36 dX6_sounding_39 (Nat.le_of_ble_eq_true rfl) (Nat.le_of_ble_eq_true rfl) (Nat.le_of_ble_eq_true rfl) (Nat.le_of_ble_eq_true rfl) (Nat.le_of_ble_eq_true rfl) (Nat.le_of_ble_eq_true rfl) ?_
            refine ⟨rfl, ?_⟩
            simp [kso, c_3, c_9, c_15, c_21, c_27]
abbrev rm_X6_loudest : Room := { frames := 6, cells := 1, slots := 6, locals := 82 }
theorem hd_X6_loudest : yX6_loudest.cls = RX6 ∧ yX6_loudest.cls ≠ "java/lang/invoke/MethodHandle" ∧ yX6_loudest.cls ≠ "java/lang/invoke/VarHandle" ∧ (parseMethodDescriptor yX6_loudest.desc).map (fun d => d.parameters.length) = some 0 := by decide +kernel
set_option maxRecDepth 100000 in
set_option maxHeartbeats 4000000 in
theorem k_X6_loudest {D : va_G} {dT : Nat → ClassId} {ad : Nat → Nat} (I : Nat → Nat → Int32) (c : Nat) (hc : I 17 6 = nI c) (h300 : c ≤ 300) : KTI yX6_loudest wsX6_loudest rm_X6_loudest D dT ad I [.ref (ad 0)] 1 6 (fun q J => klo I = 0 ∧ I = J ∧ nI (lfl I (c - 1) 1 0) = q) (fun E => (E = xNS ∧ (klo I) = 1)) := by
  intro l9 hl9
  refine ti_of hl9 (own := RX6) (cc := cX6_loudest) (maxL := 1) (some .int) [(0, .ref (ad 0))] (by decide) rfl rfl rfl (Nat.le_of_ble_eq_true rfl) ?_
  intro X hX hE hN
  have hQ := FI.x hE
  have q_w3 : Cond.fieldLink RX6 43 "Perforatum" "log" "LPerforatum$SoundingLog;" ∈ wsX6_loudest := List.mem_of_getElem? (i := 3) rfl
  have q_inX6 : ∀ w ∈ wsX60, w ∈ wsX6_loudest := by decide +kernel
  have q_w4 : Cond.fieldLink RX6 233 "Perforatum$SoundingLog" "count" "I" ∈ wsX6_loudest := List.mem_of_getElem? (i := 4) rfl
  have q_inX4 : ∀ w ∈ wsX40, w ∈ wsX6_loudest := by decide +kernel
  have q_w1 : Cond.classLink RX6 100 "java/util/NoSuchElementException" ∈ wsX6_loudest := List.mem_of_getElem? (i := 1) rfl
  have q_w2 : Cond.initialized "java/util/NoSuchElementException" ∈ wsX6_loudest := List.mem_of_getElem? (i := 2) rfl
  have q_hat104 : ∀ w ∈ (vx_atS RX6 104 "java/util/NoSuchElementException" ["java/lang/RuntimeException", "java/lang/Exception"]).filter goodWord, w ∈ wsX6_loudest := by decide +kernel
  refine g_aload_n hX 0 rfl dX6_loudest_0 rfl ?_
  refine cg_X6_log hX (by decide) rfl q_inX6 q_w3 rfl dX6_loudest_1 ?_
  refine cg_X4_count hX (by decide) rfl q_inX4 q_w4 dX6_loudest_4 ?_
  refine g_if_ne (tgt := 20) hX dX6_loudest_7 (by decide) (fun c_7 => ?_) (fun c_7 => ?_)
  · refine g_aload_n hX 0 rfl dX6_loudest_20 rfl ?_
    refine cg_X6_log hX (by decide) rfl q_inX6 q_w3 rfl dX6_loudest_21 ?_
    refine c_callI_V hX [] 8 (by decide) rfl (by decide) rfl (k_X4_findLoudest I c hc h300) gX6_loudest_X4_findLoudest rfl rfl rfl hd_X4_findLoudest ⟨Nat.le_of_ble_eq_true rfl, Nat.le_of_ble_eq_true rfl⟩ ⟨Nat.zero_le _, Nat.zero_le _⟩ rfl (Nat.le_of_ble_eq_true rfl) dX6_loudest_24 (fun r_24 J_24 h_24 => ?_)
    obtain ⟨rfl, rfl⟩ := h_24
    refine t_iret hX hE dX6_loudest_27 (Nat.le_of_ble_eq_true rfl) (Nat.le_of_ble_eq_true rfl) ?_
    exact ⟨_, rfl, by simp [klo, c_7], rfl, rfl⟩
  · refine t_throwS hX hQ (text := "no sounding is kept") "java/util/NoSuchElementException" rfl (by decide +kernel) q_w1 q_w2 (by decide) q_hat104 hat_104 hgd_104 dX6_loudest_10 dX6_loudest_13 dX6_loudest_14 dX6_loudest_16 dX6_loudest_19 (Nat.le_of_ble_eq_true rfl) (Nat.le_of_ble_eq_true rfl) (Nat.le_of_ble_eq_true rfl) (Nat.le_of_ble_eq_true rfl) (Nat.le_of_ble_eq_true rfl) (Nat.le_of_ble_eq_true rfl) ?_
    refine ⟨rfl, ?_⟩
    simp [klo, c_7]
abbrev rm_X6_speed : Room := { frames := 7, cells := 2, slots := 12, locals := 104 }
theorem hd_X6_speed : yX6_speed.cls = RX6 ∧ yX6_speed.cls ≠ "java/lang/invoke/MethodHandle" ∧ yX6_speed.cls ≠ "java/lang/invoke/VarHandle" ∧ (parseMethodDescriptor yX6_speed.desc).map (fun d => d.parameters.length) = some 2 := by decide +kernel
set_option maxRecDepth 100000 in
set_option maxHeartbeats 4000000 in
theorem k_X6_speed {D : va_G} {dT : Nat → ClassId} {ad : Nat → Nat} (I : Nat → Nat → Int32) (f g : Int32) : KTI yX6_speed wsX6_speed rm_X6_speed D dT ad I [.ref (ad 0), .int f, .int g] 2 12 (fun q J => ksp f g = 0 ∧ up2 (up2 I 0 8 f) 0 9 g = J ∧ I 0 8 = q) (fun E => (E = xIA ∧ (ksp f g) = 1)) := by
  intro l9 hl9
  refine ti_of hl9 (own := RX6) (cc := cX6_speed) (maxL := 4) (some .int) [(0, .ref (ad 0)), (1, .int f), (2, .int g)] (by decide) rfl rfl rfl (Nat.le_of_ble_eq_true rfl) ?_
  intro X hX hE hN
  have hQ := FI.x hE
  have q_w1 : Cond.fieldLink RX6 51 "Perforatum" "firstSpeed" "I" ∈ wsX6_speed := List.mem_of_getElem? (i := 1) rfl
  have q_inX6 : ∀ w ∈ wsX60, w ∈ wsX6_speed := by decide +kernel
  have q_w2 : Cond.fieldLink RX6 54 "Perforatum" "growth" "I" ∈ wsX6_speed := List.mem_of_getElem? (i := 2) rfl
  refine g_iload_n hX 1 rfl dX6_speed_0 rfl ?_
  refine g_bipush hX (100) dX6_speed_1 rfl ?_
  refine g_sipush hX (900) dX6_speed_3 rfl ?_
  refine ct_callV_S hX hQ [.int f, .int 100, .int 900] (k_X6_demandWithin I f 100 900) gX6_speed_X6_demandWithin rfl rfl rfl hd_X6_demandWithin.2 ⟨Nat.le_of_ble_eq_true rfl, Nat.le_of_ble_eq_true rfl⟩ ⟨Nat.le_of_ble_eq_true rfl, Nat.le_of_ble_eq_true rfl⟩ (Nat.le_of_ble_eq_true rfl) (Nat.le_of_ble_eq_true rfl) (fun E h9 => by obtain ⟨rfl, h9⟩ := h9; exact ⟨rfl, by simp [ksp, h9]⟩) rfl (Nat.le_of_ble_eq_true rfl) dX6_speed_6 (fun J_6 h_6 => ?_)
  obtain ⟨rfl, w_6⟩ := h_6
  refine g_iload_n hX 2 rfl dX6_speed_9 rfl ?_
  refine g_iconst hX (0) dX6_speed_10 rfl ?_
  refine g_bipush hX (50) dX6_speed_11 rfl ?_
  refine ct_callV_S hX hQ [.int g, .int 0, .int 50] (k_X6_demandWithin I g 0 50) gX6_speed_X6_demandWithin rfl rfl rfl hd_X6_demandWithin.2 ⟨Nat.le_of_ble_eq_true rfl, Nat.le_of_ble_eq_true rfl⟩ ⟨Nat.le_of_ble_eq_true rfl, Nat.le_of_ble_eq_true rfl⟩ (Nat.le_of_ble_eq_true rfl) (Nat.le_of_ble_eq_true rfl) (fun E h9 => by obtain ⟨rfl, h9⟩ := h9; exact ⟨rfl, by simp [ksp, h9, w_6]⟩) rfl (Nat.le_of_ble_eq_true rfl) dX6_speed_13 (fun J_13 h_13 => ?_)
  obtain ⟨rfl, w_13⟩ := h_13
  refine g_aload_n hX 0 rfl dX6_speed_16 rfl ?_
  refine cg_X6_firstSpeed hX (by decide) rfl q_inX6 q_w1 dX6_speed_17 ?_
  refine g_istore_n hX [(3, .int (I 0 8)), (0, .ref (ad 0)), (1, .int f), (2, .int g)] rfl dX6_speed_20 rfl (by decide) ?_
  refine g_aload_n hX 1 rfl dX6_speed_21 rfl ?_
  refine g_iload_n hX 2 rfl dX6_speed_22 rfl ?_
  refine cp_X6_firstSpeed hX (by decide) rfl q_inX6 q_w1 dX6_speed_23 ?_
  refine g_aload_n hX 1 rfl dX6_speed_26 rfl ?_
  refine g_iload_n hX 3 rfl dX6_speed_27 rfl ?_
  refine cp_X6_growth hX (by decide) rfl q_inX6 q_w2 dX6_speed_28 ?_
  refine g_iload_n hX 0 rfl dX6_speed_31 rfl ?_
  refine t_iret hX hE dX6_speed_32 (Nat.le_of_ble_eq_true rfl) (Nat.le_of_ble_eq_true rfl) ?_
  exact ⟨_, rfl, by simp [ksp, w_6, w_13], rfl, rfl⟩
abbrev rm_X6_time : Room := { frames := 7, cells := 1, slots := 6, locals := 104 }
theorem hd_X6_time : yX6_time.cls = RX6 ∧ yX6_time.cls ≠ "java/lang/invoke/MethodHandle" ∧ yX6_time.cls ≠ "java/lang/invoke/VarHandle" ∧ (parseMethodDescriptor yX6_time.desc).map (fun d => d.parameters.length) = some 1 := by decide +kernel
set_option maxRecDepth 100000 in
set_option maxHeartbeats 4000000 in
theorem k_X6_time {D : va_G} {dT : Nat → ClassId} {ad : Nat → Nat} (I : Nat → Nat → Int32) (r : Int32) : KTL yX6_time wsX6_time rm_X6_time D dT ad I [.ref (ad 0), .int r] 1 6 (fun q J => ktm r = 0 ∧ I = J ∧ tms I r.toNatClampNeg = q) (fun E => (E = xIA ∧ (ktm r) = 1)) := by
  intro l9 hl9
  refine tl_of hl9 (own := RX6) (cc := cX6_time) (maxL := 5) [(0, .ref (ad 0)), (1, .int r)] (by decide) rfl rfl rfl (Nat.le_of_ble_eq_true rfl) ?_
  intro X hX hE hN
  have hQ := FL.x hE
  refine g_iload_n hX 1 rfl dX6_time_0 rfl ?_
  refine g_iconst hX (0) dX6_time_1 rfl ?_
  refine g_sipush hX (200) dX6_time_2 rfl ?_
  refine ct_callV_S hX hQ [.int r, .int 0, .int 200] (k_X6_demandWithin I r 0 200) gX6_time_X6_demandWithin rfl rfl rfl hd_X6_demandWithin.2 ⟨Nat.le_of_ble_eq_true rfl, Nat.le_of_ble_eq_true rfl⟩ ⟨Nat.le_of_ble_eq_true rfl, Nat.le_of_ble_eq_true rfl⟩ (Nat.le_of_ble_eq_true rfl) (Nat.le_of_ble_eq_true rfl) (fun E h9 => by obtain ⟨rfl, h9⟩ := h9; exact ⟨rfl, by simp [ktm, h9]⟩) rfl (Nat.le_of_ble_eq_true rfl) dX6_time_5 (fun J_5 h_5 => ?_)
  obtain ⟨rfl, w_5⟩ := h_5
  obtain ⟨m, hm, rfl⟩ := wi_nat w_5 (by decide) (show (200 : Int32) = nI 200 from rfl) (by decide)
  refine g_lconst hX (0) dX6_time_8 rfl ?_
  refine g_lstore_n hX [(2, .long 0), (0, .ref (ad 0)), (1, .int (nI m))] rfl dX6_time_9 rfl (by decide) ?_
  refine g_iconst hX (0) dX6_time_10 rfl ?_
  refine g_istore hX [(4, .int 0), (2, .long 0), (0, .ref (ad 0)), (1, .int (nI m))] rfl dX6_time_11 (by decide) ?_
  have lp_13 : ∀ (n9 : Nat) (k : Nat) (q : Int64), m - k < n9 → k ≤ m → q = tms I k → CG X D dT ad I [(4, .int (nI k)), (2, .long q), (0, .ref (ad 0)), (1, .int (nI m))] 1 6 13 [] := by
    intro n9
    induction n9 with
    | zero => intro k q h9; exact absurd h9 (Nat.not_lt_zero _)
    | succ n9 ih9 =>
      intro k q h9 hk hq
      have ih_13 := ih9
      refine g_iload hX 0 rfl dX6_time_13 ?_
      refine g_iload_n hX 3 rfl dX6_time_15 rfl ?_
      refine g_icmp_ge (tgt := 35) hX dX6_time_16 (by decide) (fun c_16 => ?_) (fun c_16 => ?_)
      · have c_16 : m ≤ k := (nI_leI (a := m) (b := k) (by omega) (by omega)).mp c_16
        refine g_lload_n hX 1 rfl dX6_time_35 rfl ?_
        refine t_lret hX hE dX6_time_36 (Nat.le_of_ble_eq_true rfl) (Nat.le_of_ble_eq_true rfl) ?_
        exact ⟨_, rfl, by simp [ktm, w_5], rfl, by rw [nI_clamp (by omega), hq, show k = m by omega]⟩
      · have c_16 : ¬ m ≤ k := fun h9 => c_16 ((nI_leI (a := m) (b := k) (by omega) (by omega)).mpr h9)
        refine g_lload_n hX 1 rfl dX6_time_19 rfl ?_
        refine g_aload_n hX 2 rfl dX6_time_20 rfl ?_
        refine g_iload hX 0 rfl dX6_time_21 ?_
        refine c_callI_V hX [.int (nI k)] 10 (by decide) rfl (by decide) rfl (k_X6_measureRow I k) gX6_time_X6_measureRow rfl rfl rfl hd_X6_measureRow ⟨Nat.le_of_ble_eq_true rfl, Nat.le_of_ble_eq_true rfl⟩ ⟨Nat.le_of_ble_eq_true rfl, Nat.le_of_ble_eq_true rfl⟩ rfl (Nat.le_of_ble_eq_true rfl) dX6_time_23 (fun r_23 J_23 h_23 => ?_)
        obtain ⟨rfl, rfl⟩ := h_23
        refine g_i2l hX dX6_time_26 ?_
        refine g_ladd hX dX6_time_27 ?_
        refine g_lstore_n hX [(2, .long (q + ((mrw I k).toInt64))), (4, .int (nI k)), (0, .ref (ad 0)), (1, .int (nI m))] rfl dX6_time_28 rfl (by decide) ?_
        refine g_iinc hX (nI (k + 1)) [(4, .int (nI (k + 1))), (2, .long (q + ((mrw I k).toInt64))), (0, .ref (ad 0)), (1, .int (nI m))] (k := 1) rfl (g_inc k) rfl dX6_time_29 (by decide) ?_
        refine g_goto (tgt := 13) hX dX6_time_32 (by decide) ?_
        refine g_lv [0, 1, 2, 3] rfl ?_
        exact ih_13 (k + 1) (q + ((mrw I k).toInt64)) (by omega) (by omega) (by rw [hq]; rfl)
  refine g_lv [0, 1, 2, 3] rfl ?_
  exact lp_13 _ 0 0 (Nat.lt_succ_self _) (Nat.zero_le _) rfl
abbrev rm_X6_checksum : Room := { frames := 4, cells := 0, slots := 0, locals := 94 }
theorem hd_X6_checksum : yX6_checksum.cls = RX6 ∧ yX6_checksum.cls ≠ "java/lang/invoke/MethodHandle" ∧ yX6_checksum.cls ≠ "java/lang/invoke/VarHandle" ∧ (parseMethodDescriptor yX6_checksum.desc).map (fun d => d.parameters.length) = some 0 := by decide +kernel
set_option maxRecDepth 100000 in
set_option maxHeartbeats 4000000 in
theorem k_X6_checksum {D : va_G} {dT : Nat → ClassId} {ad : Nat → Nat} (I : Nat → Nat → Int32) (np : Nat) (hnp : I 0 6 = nI np) (hn4 : np ≤ 4) (c : Nat) (hc : I 17 6 = nI c) (h300 : c ≤ 300) : KL yX6_checksum wsX6_checksum rm_X6_checksum D dT ad I [.ref (ad 0)] (fun q J => I = J ∧ lts I (cks I np) c = q) := by
  intro l9
  refine cl_of (own := RX6) (cc := cX6_checksum) (maxL := 4) [(0, .ref (ad 0))] (by decide) rfl rfl rfl (Nat.le_of_ble_eq_true rfl) ?_
  intro X hX hE hN
  have q_w1 : Cond.constantLong RX6 257 (7) ∈ wsX6_checksum := List.mem_of_getElem? (i := 1) rfl
  have q_w2 : Cond.fieldLink RX6 44 "Perforatum" "paperCount" "I" ∈ wsX6_checksum := List.mem_of_getElem? (i := 2) rfl
  have q_inX6 : ∀ w ∈ wsX60, w ∈ wsX6_checksum := by decide +kernel
  have q_w4 : Cond.fieldLink RX6 43 "Perforatum" "log" "LPerforatum$SoundingLog;" ∈ wsX6_checksum := List.mem_of_getElem? (i := 4) rfl
  have q_w3 : Cond.fieldLink RX6 11 "Perforatum" "papers" "[LPerforatum$Paper;" ∈ wsX6_checksum := List.mem_of_getElem? (i := 3) rfl
  refine g_ldc2 hX (7) q_w1 dX6_checksum_0 ?_
  refine g_lstore_n hX [(1, .long (7)), (0, .ref (ad 0))] rfl dX6_checksum_3 rfl (by decide) ?_
  refine g_iconst hX (0) dX6_checksum_4 rfl ?_
  refine g_istore_n hX [(3, .int 0), (1, .long (7)), (0, .ref (ad 0))] rfl dX6_checksum_5 rfl (by decide) ?_
  have lp_6 : ∀ (n9 : Nat) (k : Nat) (q : Int64), np - k < n9 → k ≤ np → q = cks I k → CG X D dT ad I [(3, .int (nI k)), (1, .long q), (0, .ref (ad 0))] 0 0 6 [] := by
    intro n9
    induction n9 with
    | zero => intro k q h9; exact absurd h9 (Nat.not_lt_zero _)
    | succ n9 ih9 =>
      intro k q h9 hk hq
      have ih_6 := ih9
      refine g_iload_n hX 0 rfl dX6_checksum_6 rfl ?_
      refine g_aload_n hX 2 rfl dX6_checksum_7 rfl ?_
      refine cg_X6_paperCount hX (by decide) rfl q_inX6 q_w2 dX6_checksum_8 ?_
      refine g_eqi (y := (nI np)) hnp ?_
      refine g_icmp_ge (tgt := 36) hX dX6_checksum_11 (by decide) (fun c_11 => ?_) (fun c_11 => ?_)
      · have c_11 : np ≤ k := (nI_leI (a := np) (b := k) (by omega) (by omega)).mp c_11
        refine g_aload_n hX 2 rfl dX6_checksum_36 rfl ?_
        refine cg_X6_log hX (by decide) rfl q_inX6 q_w4 rfl dX6_checksum_37 ?_
        refine g_lload_n hX 1 rfl dX6_checksum_40 rfl ?_
        refine c_callL_V hX [.long q] 8 (by decide) rfl (by decide) rfl (k_X4_addToSum I c hc h300 q) gX6_checksum_X4_addToSum rfl rfl rfl hd_X4_addToSum ⟨Nat.le_of_ble_eq_true rfl, Nat.le_of_ble_eq_true rfl⟩ ⟨Nat.zero_le _, Nat.zero_le _⟩ rfl (Nat.le_of_ble_eq_true rfl) dX6_checksum_41 (fun r_41 J_41 h_41 => ?_)
        obtain ⟨rfl, rfl⟩ := h_41
        refine g_lret hX hE dX6_checksum_44 (by omega) (by omega) ?_
        exact ⟨_, rfl, rfl, by rw [hq, show k = np by omega]⟩
      · have c_11 : ¬ np ≤ k := fun h9 => c_11 ((nI_leI (a := np) (b := k) (by omega) (by omega)).mpr h9)
        refine g_iload_n hX 0 rfl dX6_checksum_14 rfl ?_
        refine g_iconst hX (4) dX6_checksum_15 rfl ?_
        refine g_icmp_ge (tgt := 36) hX dX6_checksum_16 (by decide) (fun c_16 => ?_) (fun c_16 => ?_)
        · have c_16 : 4 ≤ k := (nI_leI (a := 4) (b := k) (by omega) (by omega)).mp c_16
          refine g_aload_n hX 2 rfl dX6_checksum_36 rfl ?_
          refine cg_X6_log hX (by decide) rfl q_inX6 q_w4 rfl dX6_checksum_37 ?_
          refine g_lload_n hX 1 rfl dX6_checksum_40 rfl ?_
          refine c_callL_V hX [.long q] 8 (by decide) rfl (by decide) rfl (k_X4_addToSum I c hc h300 q) gX6_checksum_X4_addToSum rfl rfl rfl hd_X4_addToSum ⟨Nat.le_of_ble_eq_true rfl, Nat.le_of_ble_eq_true rfl⟩ ⟨Nat.zero_le _, Nat.zero_le _⟩ rfl (Nat.le_of_ble_eq_true rfl) dX6_checksum_41 (fun r_41 J_41 h_41 => ?_)
          obtain ⟨rfl, rfl⟩ := h_41
          refine g_lret hX hE dX6_checksum_44 (by omega) (by omega) ?_
          exact ⟨_, rfl, rfl, by rw [hq, show k = np by omega]⟩
        · have c_16 : ¬ 4 ≤ k := fun h9 => c_16 ((nI_leI (a := 4) (b := k) (by omega) (by omega)).mpr h9)
          refine g_aload_n hX 2 rfl dX6_checksum_19 rfl ?_
          refine cg_X6_papers hX (by decide) rfl q_inX6 q_w3 rfl dX6_checksum_20 ?_
          refine g_iload_n hX 0 rfl dX6_checksum_23 rfl ?_
          refine c_aaldp hX k (by omega) dX6_checksum_24 ?_
          refine g_lload_n hX 1 rfl dX6_checksum_25 rfl ?_
          refine c_callL_V hX [.long q] 5 (by omega) (cK_p (by omega)) (by decide) rfl (k_X1_addToSum I k (by omega) q) gX6_checksum_X1_addToSum rfl rfl rfl hd_X1_addToSum ⟨Nat.le_of_ble_eq_true rfl, Nat.le_of_ble_eq_true rfl⟩ ⟨Nat.zero_le _, Nat.zero_le _⟩ rfl (Nat.le_of_ble_eq_true rfl) dX6_checksum_26 (fun r_26 J_26 h_26 => ?_)
          obtain ⟨rfl, rfl⟩ := h_26
          refine g_lstore_n hX [(1, .long (ats I k q 200)), (3, .int (nI k)), (0, .ref (ad 0))] rfl dX6_checksum_29 rfl (by decide) ?_
          refine g_iinc hX (nI (k + 1)) [(3, .int (nI (k + 1))), (1, .long (ats I k q 200)), (0, .ref (ad 0))] (k := 1) rfl (g_inc k) rfl dX6_checksum_30 (by decide) ?_
          refine g_goto (tgt := 6) hX dX6_checksum_33 (by decide) ?_
          refine g_lv [0, 1, 2] rfl ?_
          exact ih_6 (k + 1) (ats I k q 200) (by omega) (by omega) (by rw [hq]; rfl)
  refine g_lv [0, 1, 2] rfl ?_
  exact lp_6 _ 0 (7) (Nat.lt_succ_self _) (Nat.zero_le _) rfl
