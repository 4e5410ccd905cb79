abbrev rm_X6_loudest : Room := { frames := 6, cells := 1, slots := 6, locals := 82 }
theorem hd_X6_loudest : yX6_loudest.cls = RX6 ∧ yX6_loudest.cls ≠ "java/lang/invoke/MethodHandle" ∧ yX6_loudest.cls ≠ "java/lang/invoke/VarHandle" ∧ (parseMethodDescriptor yX6_loudest.desc).map (fun d => d.parameters.length) = some 0 := by decide +kernel
set_option maxRecDepth 100000 in
set_option maxHeartbeats 4000000 in
theorem k_X6_loudest {D : va_G} {dT : Nat → ClassId} {ad : Nat → Nat} (I : Nat → Nat → Int32) (c : Nat) (hc : I 17 6 = nI c) (h300 : c ≤ 300) : KTI yX6_loudest wsX6_loudest rm_X6_loudest D dT ad I [.ref (ad 0)] 1 6 (fun q9 J => klo I = 0 ∧ I = J ∧ nI (lfl I (c - 1) 1 0) = q9) (fun E => (E = xNS ∧ (klo I) = 1)) := by
  intro l9 hl9
  refine ti_of hl9 (own := RX6) (cc := cX6_loudest) (maxL := 1) (some .int) [(0, .ref (ad 0))] (by decide) rfl rfl rfl (Nat.le_of_ble_eq_true rfl) ?_
  intro X hX hE hN
  have hQ := FI.x hE
  have q_w3 : Cond.fieldLink RX6 43 "Perforatum" "log" "LPerforatum$SoundingLog;" ∈ wsX6_loudest := List.mem_of_getElem? (i := 3) rfl
  have q_inX6 : ∀ w ∈ wsX60, w ∈ wsX6_loudest := by decide +kernel
  have q_w4 : Cond.fieldLink RX6 233 "Perforatum$SoundingLog" "count" "I" ∈ wsX6_loudest := List.mem_of_getElem? (i := 4) rfl
  have q_inX4 : ∀ w ∈ wsX40, w ∈ wsX6_loudest := by decide +kernel
  have q_w1 : Cond.classLink RX6 100 "java/util/NoSuchElementException" ∈ wsX6_loudest := List.mem_of_getElem? (i := 1) rfl
  have q_w2 : Cond.initialized "java/util/NoSuchElementException" ∈ wsX6_loudest := List.mem_of_getElem? (i := 2) rfl
  have q_hat104 : ∀ w ∈ nx_at.filter goodWord, w ∈ wsX6_loudest := by decide +kernel
  refine g_aload_n hX 0 rfl dX6_loudest_0 rfl ?_
  refine cg_X6_log hX (by decide) rfl q_inX6 q_w3 rfl dX6_loudest_1 ?_
  refine cg_X4_count hX (by decide) rfl q_inX4 q_w4 dX6_loudest_4 ?_
  refine g_if_ne (tgt := 20) hX dX6_loudest_7 (by decide) (fun c_7 => ?_) (fun c_7 => ?_)
  · refine g_aload_n hX 0 rfl dX6_loudest_20 rfl ?_
    refine cg_X6_log hX (by decide) rfl q_inX6 q_w3 rfl dX6_loudest_21 ?_
    refine c_callI_V hX [] 8 (by decide) rfl (by decide) rfl (k_X4_findLoudest I c hc h300) gX6_loudest_X4_findLoudest rfl rfl rfl hd_X4_findLoudest ⟨Nat.le_of_ble_eq_true rfl, Nat.le_of_ble_eq_true rfl⟩ ⟨Nat.zero_le _, Nat.zero_le _⟩ rfl (Nat.le_of_ble_eq_true rfl) dX6_loudest_24 (fun r_24 J_24 h_24 => ?_)
    obtain ⟨rfl, rfl⟩ := h_24
    refine t_iret hX hE dX6_loudest_27 (Nat.le_of_ble_eq_true rfl) (Nat.le_of_ble_eq_true rfl) ?_
    exact ⟨_, rfl, by simp [klo, c_7], rfl, rfl⟩
  · refine t_throwN hX hQ (text := "no sounding is kept") q_w1 q_w2 (by decide) q_hat104 hat_104 hgd_104 dX6_loudest_10 dX6_loudest_13 dX6_loudest_14 dX6_loudest_16 dX6_loudest_19 (Nat.le_of_ble_eq_true rfl) (Nat.le_of_ble_eq_true rfl) (Nat.le_of_ble_eq_true rfl) (Nat.le_of_ble_eq_true rfl) (Nat.le_of_ble_eq_true rfl) (Nat.le_of_ble_eq_true rfl) ?_
    refine ⟨rfl, ?_⟩
    simp [klo, c_7]
abbrev rm_X6_speed : Room := { frames := 7, cells := 2, slots := 12, locals := 104 }
theorem hd_X6_speed : yX6_speed.cls = RX6 ∧ yX6_speed.cls ≠ "java/lang/invoke/MethodHandle" ∧ yX6_speed.cls ≠ "java/lang/invoke/VarHandle" ∧ (parseMethodDescriptor yX6_speed.desc).map (fun d => d.parameters.length) = some 2 := by decide +kernel
set_option maxRecDepth 100000 in
set_option maxHeartbeats 4000000 in
theorem k_X6_speed {D : va_G} {dT : Nat → ClassId} {ad : Nat → Nat} (I : Nat → Nat → Int32) (f g : Int32) : KTI yX6_speed wsX6_speed rm_X6_speed D dT ad I [.ref (ad 0), .int f, .int g] 2 12 (fun q9 J => ksp f g = 0 ∧ up2 (up2 I 0 8 f) 0 9 g = J ∧ I 0 8 = q9) (fun E => (E = xIA ∧ (ksp f g) = 1)) := by
  intro l9 hl9
  refine ti_of hl9 (own := RX6) (cc := cX6_speed) (maxL := 4) (some .int) [(0, .ref (ad 0)), (1, .int f), (2, .int g)] (by decide) rfl rfl rfl (Nat.le_of_ble_eq_true rfl) ?_
  intro X hX hE hN
  have hQ := FI.x hE
  have q_w1 : Cond.fieldLink RX6 51 "Perforatum" "firstSpeed" "I" ∈ wsX6_speed := List.mem_of_getElem? (i := 1) rfl
  have q_inX6 : ∀ w ∈ wsX60, w ∈ wsX6_speed := by decide +kernel
  have q_w2 : Cond.fieldLink RX6 54 "Perforatum" "growth" "I" ∈ wsX6_speed := List.mem_of_getElem? (i := 2) rfl
  refine g_iload_n hX 1 rfl dX6_speed_0 rfl ?_
  refine g_bipush hX (100) dX6_speed_1 rfl ?_
  refine g_sipush hX (900) dX6_speed_3 rfl ?_
  refine ct_callV_S hX hQ [.int f, .int 100, .int 900] (k_X6_demandWithin I f 100 900) gX6_speed_X6_demandWithin rfl rfl rfl hd_X6_demandWithin.2 ⟨Nat.le_of_ble_eq_true rfl, Nat.le_of_ble_eq_true rfl⟩ ⟨Nat.le_of_ble_eq_true rfl, Nat.le_of_ble_eq_true rfl⟩ (Nat.le_of_ble_eq_true rfl) (Nat.le_of_ble_eq_true rfl) (fun E h9 => by obtain ⟨rfl, h9⟩ := h9; exact ⟨rfl, by simp [ksp, h9]⟩) rfl (Nat.le_of_ble_eq_true rfl) dX6_speed_6 (fun J_6 h_6 => ?_)
  obtain ⟨rfl, w_6⟩ := h_6
  refine g_iload_n hX 2 rfl dX6_speed_9 rfl ?_
  refine g_iconst hX (0) dX6_speed_10 rfl ?_
  refine g_bipush hX (50) dX6_speed_11 rfl ?_
  refine ct_callV_S hX hQ [.int g, .int 0, .int 50] (k_X6_demandWithin I g 0 50) gX6_speed_X6_demandWithin rfl rfl rfl hd_X6_demandWithin.2 ⟨Nat.le_of_ble_eq_true rfl, Nat.le_of_ble_eq_true rfl⟩ ⟨Nat.le_of_ble_eq_true rfl, Nat.le_of_ble_eq_true rfl⟩ (Nat.le_of_ble_eq_true rfl) (Nat.le_of_ble_eq_true rfl) (fun E h9 => by obtain ⟨rfl, h9⟩ := h9; exact ⟨rfl, by simp [ksp, h9, w_6]⟩) rfl (Nat.le_of_ble_eq_true rfl) dX6_speed_13 (fun J_13 h_13 => ?_)
  obtain ⟨rfl, w_13⟩ := h_13
  refine g_aload_n hX 0 rfl dX6_speed_16 rfl ?_
  refine cg_X6_firstSpeed hX (by decide) rfl q_inX6 q_w1 dX6_speed_17 ?_
  refine g_istore_n hX [(3, .int (I 0 8)), (0, .ref (ad 0)), (1, .int f), (2, .int g)] rfl dX6_speed_20 rfl (by decide) ?_
  refine g_aload_n hX 1 rfl dX6_speed_21 rfl ?_
  refine g_iload_n hX 2 rfl dX6_speed_22 rfl ?_
  refine cp_X6_firstSpeed hX (by decide) rfl q_inX6 q_w1 dX6_speed_23 ?_
  refine g_aload_n hX 1 rfl dX6_speed_26 rfl ?_
  refine g_iload_n hX 3 rfl dX6_speed_27 rfl ?_
  refine cp_X6_growth hX (by decide) rfl q_inX6 q_w2 dX6_speed_28 ?_
  refine g_iload_n hX 0 rfl dX6_speed_31 rfl ?_
  refine t_iret hX hE dX6_speed_32 (Nat.le_of_ble_eq_true rfl) (Nat.le_of_ble_eq_true rfl) ?_
  exact ⟨_, rfl, by simp [ksp, w_6, w_13], rfl, rfl⟩
abbrev rm_X6_time : Room := { frames := 7, cells := 1, slots := 6, locals := 104 }
theorem hd_X6_time : yX6_time.cls = RX6 ∧ yX6_time.cls ≠ "java/lang/invoke/MethodHandle" ∧ yX6_time.cls ≠ "java/lang/invoke/VarHandle" ∧ (parseMethodDescriptor yX6_time.desc).map (fun d => d.parameters.length) = some 1 := by decide +kernel
set_option maxRecDepth 100000 in
set_option maxHeartbeats 4000000 in
theorem k_X6_time {D : va_G} {dT : Nat → ClassId} {ad : Nat → Nat} (I : Nat → Nat → Int32) (r : Int32) : KTL yX6_time wsX6_time rm_X6_time D dT ad I [.ref (ad 0), .int r] 1 6 (fun q9 J => ktm r = 0 ∧ I = J ∧ tms I r.toNatClampNeg = q9) (fun E => (E = xIA ∧ (ktm r) = 1)) := by
  intro l9 hl9
  refine tl_of hl9 (own := RX6) (cc := cX6_time) (maxL := 5) [(0, .ref (ad 0)), (1, .int r)] (by decide) rfl rfl rfl (Nat.le_of_ble_eq_true rfl) ?_
  intro X hX hE hN
  have hQ := FL.x hE
  refine g_iload_n hX 1 rfl dX6_time_0 rfl ?_
  refine g_iconst hX (0) dX6_time_1 rfl ?_
  refine g_sipush hX (200) dX6_time_2 rfl ?_
  refine ct_callV_S hX hQ [.int r, .int 0, .int 200] (k_X6_demandWithin I r 0 200) gX6_time_X6_demandWithin rfl rfl rfl hd_X6_demandWithin.2 ⟨Nat.le_of_ble_eq_true rfl, Nat.le_of_ble_eq_true rfl⟩ ⟨Nat.le_of_ble_eq_true rfl, Nat.le_of_ble_eq_true rfl⟩ (Nat.le_of_ble_eq_true rfl) (Nat.le_of_ble_eq_true rfl) (fun E h9 => by obtain ⟨rfl, h9⟩ := h9; exact ⟨rfl, by simp [ktm, h9]⟩) rfl (Nat.le_of_ble_eq_true rfl) dX6_time_5 (fun J_5 h_5 => ?_)
  obtain ⟨rfl, w_5⟩ := h_5
  obtain ⟨m, hm, rfl⟩ := wi_nat w_5 (by decide) (show (200 : Int32) = nI 200 from rfl) (by decide)
  refine g_lconst hX (0) dX6_time_8 rfl ?_
  refine g_lstore_n hX [(2, .long 0), (0, .ref (ad 0)), (1, .int (nI m))] rfl dX6_time_9 rfl (by decide) ?_
  refine g_iconst hX (0) dX6_time_10 rfl ?_
  refine g_istore hX [(4, .int 0), (2, .long 0), (0, .ref (ad 0)), (1, .int (nI m))] rfl dX6_time_11 (by decide) ?_
  have lp_13 : ∀ (n9 : Nat) (k : Nat) (q : Int64), m - k < n9 → k ≤ m → q = tms I k → CG X D dT ad I [(4, .int (nI k)), (2, .long q), (0, .ref (ad 0)), (1, .int (nI m))] 1 6 13 [] := by
    intro n9
    induction n9 with
    | zero => intro k q h9; exact absurd h9 (Nat.not_lt_zero _)
    | succ n9 ih9 =>
      intro k q h9 hk hq
      have ih_13 := ih9
      refine g_iload hX 0 rfl dX6_time_13 ?_
      refine g_iload_n hX 3 rfl dX6_time_15 rfl ?_
      refine g_icmp_ge (tgt := 35) hX dX6_time_16 (by decide) (fun c_16 => ?_) (fun c_16 => ?_)
      · have c_16 : m ≤ k := (nI_leI (a := m) (b := k) (by omega) (by omega)).mp c_16
        refine g_lload_n hX 1 rfl dX6_time_35 rfl ?_
        refine t_lret hX hE dX6_time_36 (Nat.le_of_ble_eq_true rfl) (Nat.le_of_ble_eq_true rfl) ?_
        exact ⟨_, rfl, by simp [ktm, w_5], rfl, by rw [nI_clamp (by omega), hq, show k = m by omega]⟩
      · have c_16 : ¬ m ≤ k := fun h9 => c_16 ((nI_leI (a := m) (b := k) (by omega) (by omega)).mpr h9)
        refine g_lload_n hX 1 rfl dX6_time_19 rfl ?_
        refine g_aload_n hX 2 rfl dX6_time_20 rfl ?_
        refine g_iload hX 0 rfl dX6_time_21 ?_
        refine c_callI_V hX [.int (nI k)] 10 (by decide) rfl (by decide) rfl (k_X6_measureRow I k) gX6_time_X6_measureRow rfl rfl rfl hd_X6_measureRow ⟨Nat.le_of_ble_eq_true rfl, Nat.le_of_ble_eq_true rfl⟩ ⟨Nat.le_of_ble_eq_true rfl, Nat.le_of_ble_eq_true rfl⟩ rfl (Nat.le_of_ble_eq_true rfl) dX6_time_23 (fun r_23 J_23 h_23 => ?_)
        obtain ⟨rfl, rfl⟩ := h_23
        refine g_i2l hX dX6_time_26 ?_
        refine g_ladd hX dX6_time_27 ?_
        refine g_lstore_n hX [(2, .long (q + ((mrw I k).toInt64))), (4, .int (nI k)), (0, .ref (ad 0)), (1, .int (nI m))] rfl dX6_time_28 rfl (by decide) ?_
        refine g_iinc hX (nI (k + 1)) [(4, .int (nI (k + 1))), (2, .long (q + ((mrw I k).toInt64))), (0, .ref (ad 0)), (1, .int (nI m))] (k := 1) rfl (g_inc k) rfl dX6_time_29 (by decide) ?_
        refine g_goto (tgt := 13) hX dX6_time_32 (by decide) ?_
        refine g_lv [0, 1, 2, 3] rfl ?_
        exact ih_13 (k + 1) (q + ((mrw I k).toInt64)) (by omega) (by omega) (by rw [hq]; rfl)
  refine g_lv [0, 1, 2, 3] rfl ?_
  exact lp_13 _ 0 0 (Nat.lt_succ_self _) (Nat.zero_le _) rfl
abbrev rm_X6_checksum : Room := { frames := 4, cells := 0, slots := 0, locals := 94 }
theorem hd_X6_checksum : yX6_checksum.cls = RX6 ∧ yX6_checksum.cls ≠ "java/lang/invoke/MethodHandle" ∧ yX6_checksum.cls ≠ "java/lang/invoke/VarHandle" ∧ (parseMethodDescriptor yX6_checksum.desc).map (fun d => d.parameters.length) = some 0 := by decide +kernel
set_option maxRecDepth 100000 in
set_option maxHeartbeats 4000000 in
theorem k_X6_checksum {D : va_G} {dT : Nat → ClassId} {ad : Nat → Nat} (I : Nat → Nat → Int32) (np : Nat) (hnp : I 0 6 = nI np) (hn4 : np ≤ 4) (c : Nat) (hc : I 17 6 = nI c) (h300 : c ≤ 300) : KL yX6_checksum wsX6_checksum rm_X6_checksum D dT ad I [.ref (ad 0)] (fun q J => I = J ∧ lts I (cks I np) c = q) := by
  intro l9
  refine cl_of (own := RX6) (cc := cX6_checksum) (maxL := 4) [(0, .ref (ad 0))] (by decide) rfl rfl rfl (Nat.le_of_ble_eq_true rfl) ?_
  intro X hX hE hN
  have q_w1 : Cond.constantLong RX6 257 (7) ∈ wsX6_checksum := List.mem_of_getElem? (i := 1) rfl
  have q_w2 : Cond.fieldLink RX6 44 "Perforatum" "paperCount" "I" ∈ wsX6_checksum := List.mem_of_getElem? (i := 2) rfl
  have q_inX6 : ∀ w ∈ wsX60, w ∈ wsX6_checksum := by decide +kernel
  have q_w4 : Cond.fieldLink RX6 43 "Perforatum" "log" "LPerforatum$SoundingLog;" ∈ wsX6_checksum := List.mem_of_getElem? (i := 4) rfl
  have q_w3 : Cond.fieldLink RX6 11 "Perforatum" "papers" "[LPerforatum$Paper;" ∈ wsX6_checksum := List.mem_of_getElem? (i := 3) rfl
  refine g_ldc2 hX (7) q_w1 dX6_checksum_0 ?_
  refine g_lstore_n hX [(1, .long (7)), (0, .ref (ad 0))] rfl dX6_checksum_3 rfl (by decide) ?_
  refine g_iconst hX (0) dX6_checksum_4 rfl ?_
  refine g_istore_n hX [(3, .int 0), (1, .long (7)), (0, .ref (ad 0))] rfl dX6_checksum_5 rfl (by decide) ?_
  have lp_6 : ∀ (n9 : Nat) (k : Nat) (q : Int64), np - k < n9 → k ≤ np → q = cks I k → CG X D dT ad I [(3, .int (nI k)), (1, .long q), (0, .ref (ad 0))] 0 0 6 [] := by
    intro n9
    induction n9 with
    | zero => intro k q h9; exact absurd h9 (Nat.not_lt_zero _)
    | succ n9 ih9 =>
      intro k q h9 hk hq
      have ih_6 := ih9
      refine g_iload_n hX 0 rfl dX6_checksum_6 rfl ?_
      refine g_aload_n hX 2 rfl dX6_checksum_7 rfl ?_
      refine cg_X6_paperCount hX (by decide) rfl q_inX6 q_w2 dX6_checksum_8 ?_
      refine g_eqi (y := (nI np)) hnp ?_
      refine g_icmp_ge (tgt := 36) hX dX6_checksum_11 (by decide) (fun c_11 => ?_) (fun c_11 => ?_)
      · have c_11 : np ≤ k := (nI_leI (a := np) (b := k) (by omega) (by omega)).mp c_11
        refine g_aload_n hX 2 rfl dX6_checksum_36 rfl ?_
        refine cg_X6_log hX (by decide) rfl q_inX6 q_w4 rfl dX6_checksum_37 ?_
        refine g_lload_n hX 1 rfl dX6_checksum_40 rfl ?_
        refine c_callL_V hX [.long q] 8 (by decide) rfl (by decide) rfl (k_X4_addToSum I c hc h300 q) gX6_checksum_X4_addToSum rfl rfl rfl hd_X4_addToSum ⟨Nat.le_of_ble_eq_true rfl, Nat.le_of_ble_eq_true rfl⟩ ⟨Nat.zero_le _, Nat.zero_le _⟩ rfl (Nat.le_of_ble_eq_true rfl) dX6_checksum_41 (fun r_41 J_41 h_41 => ?_)
        obtain ⟨rfl, rfl⟩ := h_41
        refine g_lret hX hE dX6_checksum_44 (by omega) (by omega) ?_
        exact ⟨_, rfl, rfl, by rw [hq, show k = np by omega]⟩
      · have c_11 : ¬ np ≤ k := fun h9 => c_11 ((nI_leI (a := np) (b := k) (by omega) (by omega)).mpr h9)
        refine g_iload_n hX 0 rfl dX6_checksum_14 rfl ?_
        refine g_iconst hX (4) dX6_checksum_15 rfl ?_
        refine g_icmp_ge (tgt := 36) hX dX6_checksum_16 (by decide) (fun c_16 => ?_) (fun c_16 => ?_)
        · have c_16 : 4 ≤ k := (nI_leI (a := 4) (b := k) (by omega) (by omega)).mp c_16
          refine g_aload_n hX 2 rfl dX6_checksum_36 rfl ?_
          refine cg_X6_log hX (by decide) rfl q_inX6 q_w4 rfl dX6_checksum_37 ?_
          refine g_lload_n hX 1 rfl dX6_checksum_40 rfl ?_
          refine c_callL_V hX [.long q] 8 (by decide) rfl (by decide) rfl (k_X4_addToSum I c hc h300 q) gX6_checksum_X4_addToSum rfl rfl rfl hd_X4_addToSum ⟨Nat.le_of_ble_eq_true rfl, Nat.le_of_ble_eq_true rfl⟩ ⟨Nat.zero_le _, Nat.zero_le _⟩ rfl (Nat.le_of_ble_eq_true rfl) dX6_checksum_41 (fun r_41 J_41 h_41 => ?_)
          obtain ⟨rfl, rfl⟩ := h_41
          refine g_lret hX hE dX6_checksum_44 (by omega) (by omega) ?_
          exact ⟨_, rfl, rfl, by rw [hq, show k = np by omega]⟩
        · have c_16 : ¬ 4 ≤ k := fun h9 => c_16 ((nI_leI (a := 4) (b := k) (by omega) (by omega)).mpr h9)
          refine g_aload_n hX 2 rfl dX6_checksum_19 rfl ?_
          refine cg_X6_papers hX (by decide) rfl q_inX6 q_w3 rfl dX6_checksum_20 ?_
          refine g_iload_n hX 0 rfl dX6_checksum_23 rfl ?_
          refine c_aaldp hX k (by omega) dX6_checksum_24 ?_
          refine g_lload_n hX 1 rfl dX6_checksum_25 rfl ?_
          refine c_callL_V hX [.long q] 5 (by omega) (cK_p (by omega)) (by decide) rfl (k_X1_addToSum I k (by omega) q) gX6_checksum_X1_addToSum rfl rfl rfl hd_X1_addToSum ⟨Nat.le_of_ble_eq_true rfl, Nat.le_of_ble_eq_true rfl⟩ ⟨Nat.zero_le _, Nat.zero_le _⟩ rfl (Nat.le_of_ble_eq_true rfl) dX6_checksum_26 (fun r_26 J_26 h_26 => ?_)
          obtain ⟨rfl, rfl⟩ := h_26
          refine g_lstore_n hX [(1, .long (ats I k q 200)), (3, .int (nI k)), (0, .ref (ad 0))] rfl dX6_checksum_29 rfl (by decide) ?_
          refine g_iinc hX (nI (k + 1)) [(3, .int (nI (k + 1))), (1, .long (ats I k q 200)), (0, .ref (ad 0))] (k := 1) rfl (g_inc k) rfl dX6_checksum_30 (by decide) ?_
          refine g_goto (tgt := 6) hX dX6_checksum_33 (by decide) ?_
          refine g_lv [0, 1, 2] rfl ?_
          exact ih_6 (k + 1) (ats I k q 200) (by omega) (by omega) (by rw [hq]; rfl)
  refine g_lv [0, 1, 2] rfl ?_
  exact lp_6 _ 0 (7) (Nat.lt_succ_self _) (Nat.zero_le _) rfl

