abbrev rm_X8_thrown : Room := { frames := 0, cells := 0, slots := 0, locals := 0 }
theorem hd_X8_thrown : yX8_thrown.cls = RX8 ∧ yX8_thrown.cls ≠ "java/lang/invoke/MethodHandle" ∧ yX8_thrown.cls ≠ "java/lang/invoke/VarHandle" ∧ (parseMethodDescriptor yX8_thrown.desc).map (fun d => d.parameters.length) = some 0 := by decide +kernel
set_option maxRecDepth 100000 in
set_option maxHeartbeats 4000000 in
theorem k_X8_thrown {D : va_G} {dT : Nat → ClassId} {Z : ZT} {K N : Nat → Nat} {I : Nat → Nat → Int32} {Rr : Nat → Nat → Option Nat} {ad : Nat → Nat} {L : List Nat} (h0 : 0 ∈ L) (hk0 : K 0 = 12) : ∀ l8, BI l8 yX8_thrown wsX8_thrown rm_X8_thrown D (tyl dT) Z ad L (pf dT K N I Rr ad) [.ref (ad 0)] 0 0 (fun r u => u = (ad, L, pf dT K N I Rr ad) ∧ I 0 15 = r) := by
  intro l9
  refine bi_of (own := RX8) (cc := cX8_thrown) (maxL := 1) (some .int) [(0, .ref (ad 0))] (by decide) rfl rfl rfl (Nat.le_of_ble_eq_true rfl) ?_
  intro X hX hE hN hM
  have q_w1 : Cond.fieldLink RX8 51 "PerforatumModel" "thrown" "I" ∈ wsX8_thrown := List.mem_of_getElem? (i := 1) rfl
  have q_inX8 : ∀ w ∈ wsX80, w ∈ wsX8_thrown := by decide +kernel
  refine g_aload_n hX 0 rfl dX8_thrown_0 rfl ?_
  refine g_getI (i := 0) hX 12 15 q_inX8 h0 hk0 (by decide) rfl (by decide) rfl q_w1 rfl dX8_thrown_1 ?_
  refine b_iret hX hE dX8_thrown_4 (by omega) (by omega) ?_
  exact ⟨rfl, rfl⟩
abbrev rm_X8_isIn : Room := { frames := 0, cells := 0, slots := 0, locals := 0 }
theorem hd_X8_isIn : yX8_isIn.cls = RX8 ∧ yX8_isIn.cls ≠ "java/lang/invoke/MethodHandle" ∧ yX8_isIn.cls ≠ "java/lang/invoke/VarHandle" ∧ (parseMethodDescriptor yX8_isIn.desc).map (fun d => d.parameters.length) = some 3 := by decide +kernel
set_option maxRecDepth 100000 in
set_option maxHeartbeats 4000000 in
theorem k_X8_isIn {D : va_G} {dT : Nat → ClassId} {Z : ZT} {K N : Nat → Nat} {I : Nat → Nat → Int32} {Rr : Nat → Nat → Option Nat} {ad : Nat → Nat} {L : List Nat} (v a b : Int32) : ∀ l8, BI l8 yX8_isIn wsX8_isIn rm_X8_isIn D (tyl dT) Z ad L (pf dT K N I Rr ad) [.int v, .int a, .int b] 0 0 (fun r u => u = (ad, L, pf dT K N I Rr ad) ∧ isi v a b = r) := by
  intro l9
  refine bi_of (own := RX8) (cc := cX8_isIn) (maxL := 3) (some .boolean) [(0, .int v), (1, .int a), (2, .int b)] (by decide) rfl rfl rfl (Nat.le_of_ble_eq_true rfl) ?_
  intro X hX hE hN hM
  refine g_iload_n hX 0 rfl dX8_isIn_0 rfl ?_
  refine g_iload_n hX 1 rfl dX8_isIn_1 rfl ?_
  refine g_icmp_lt (tgt := 14) hX dX8_isIn_2 (by decide) (fun c_2 => ?_) (fun c_2 => ?_)
  · refine g_iconst hX (0) dX8_isIn_14 rfl ?_
    refine b_zret hX rfl hE dX8_isIn_15 (by omega) (by omega) ?_
    exact ⟨rfl, if_pos c_2⟩
  · refine g_iload_n hX 0 rfl dX8_isIn_5 rfl ?_
    refine g_iload_n hX 2 rfl dX8_isIn_6 rfl ?_
    refine g_icmp_gt (tgt := 14) hX dX8_isIn_7 (by decide) (fun c_7 => ?_) (fun c_7 => ?_)
    · refine g_iconst hX (0) dX8_isIn_14 rfl ?_
      refine b_zret hX rfl hE dX8_isIn_15 (by omega) (by omega) ?_
      exact ⟨rfl, (if_neg c_2).trans (if_pos c_7)⟩
    · refine g_iconst hX (1) dX8_isIn_10 rfl ?_
      refine g_goto (tgt := 15) hX dX8_isIn_11 (by decide) ?_
      refine b_zret hX rfl hE dX8_isIn_15 (by omega) (by omega) ?_
      exact ⟨rfl, (if_neg c_2).trans (if_neg c_7)⟩
abbrev rm_X8_isNote : Room := { frames := 1, cells := 0, slots := 0, locals := 22 }
theorem hd_X8_isNote : yX8_isNote.cls = RX8 ∧ yX8_isNote.cls ≠ "java/lang/invoke/MethodHandle" ∧ yX8_isNote.cls ≠ "java/lang/invoke/VarHandle" ∧ (parseMethodDescriptor yX8_isNote.desc).map (fun d => d.parameters.length) = some 1 := by decide +kernel
set_option maxRecDepth 100000 in
set_option maxHeartbeats 4000000 in
theorem k_X8_isNote {D : va_G} {dT : Nat → ClassId} {Z : ZT} {K N : Nat → Nat} {I : Nat → Nat → Int32} {Rr : Nat → Nat → Option Nat} {ad : Nat → Nat} {L : List Nat} (v : Int32) : ∀ l8, BI l8 yX8_isNote wsX8_isNote rm_X8_isNote D (tyl dT) Z ad L (pf dT K N I Rr ad) [.int v] 0 0 (fun r u => u = (ad, L, pf dT K N I Rr ad) ∧ isi v 0 11 = r) := by
  intro l9
  refine bi_of (own := RX8) (cc := cX8_isNote) (maxL := 1) (some .boolean) [(0, .int v)] (by decide) rfl rfl rfl (Nat.le_of_ble_eq_true rfl) ?_
  intro X hX hE hN hM
  refine g_iload_n hX 0 rfl dX8_isNote_0 rfl ?_
  refine g_iconst hX (0) dX8_isNote_1 rfl ?_
  refine g_bipush hX (11) dX8_isNote_2 rfl ?_
  refine b_callI_S hX hM [.int v, .int 0, .int 11] (k_X8_isIn v 0 11) gX8_isNote_X8_isIn rfl rfl rfl hd_X8_isIn.2 ⟨Nat.le_of_ble_eq_true rfl, Nat.le_of_ble_eq_true rfl⟩ ⟨Nat.le_of_ble_eq_true rfl, Nat.le_of_ble_eq_true rfl⟩ rfl (Nat.le_of_ble_eq_true rfl) dX8_isNote_4 (fun r9 ad9 L9 f9 hp9 => ?_)
  obtain ⟨he9, hr9⟩ := hp9
  cases he9
  subst hr9
  refine b_zret hX (nz_isi _ _ _) hE dX8_isNote_7 (by omega) (by omega) ?_
  exact ⟨rfl, rfl⟩
abbrev rm_X8_no : Room := { frames := 0, cells := 0, slots := 0, locals := 0 }
theorem hd_X8_no : yX8_no.cls = RX8 ∧ yX8_no.cls ≠ "java/lang/invoke/MethodHandle" ∧ yX8_no.cls ≠ "java/lang/invoke/VarHandle" ∧ (parseMethodDescriptor yX8_no.desc).map (fun d => d.parameters.length) = some 2 := by decide +kernel
set_option maxRecDepth 100000 in
set_option maxHeartbeats 4000000 in
theorem k_X8_no {D : va_G} {dT : Nat → ClassId} {Z : ZT} {K N : Nat → Nat} {I : Nat → Nat → Int32} {Rr : Nat → Nat → Option Nat} {ad : Nat → Nat} {L : List Nat} (h0 : 0 ∈ L) (hk0 : K 0 = 12) (q p : Int32) : ∀ l8, BI l8 yX8_no wsX8_no rm_X8_no D (tyl dT) Z ad L (pf dT K N I Rr ad) [.ref (ad 0), .int q, .int p] 0 0 (fun r u => u = (ad, L, pf dT K N (up2 I 0 15 (if q = 0 then p else 0)) Rr ad) ∧ (if q = 0 then 1 else 0) = r) := by
  intro l9
  refine bi_of (own := RX8) (cc := cX8_no) (maxL := 3) (some .boolean) [(0, .ref (ad 0)), (1, .int q), (2, .int p)] (by decide) rfl rfl rfl (Nat.le_of_ble_eq_true rfl) ?_
  intro X hX hE hN hM
  have q_w1 : Cond.fieldLink RX8 51 "PerforatumModel" "thrown" "I" ∈ wsX8_no := List.mem_of_getElem? (i := 1) rfl
  have q_inX8 : ∀ w ∈ wsX80, w ∈ wsX8_no := by decide +kernel
  refine g_aload_n hX 0 rfl dX8_no_0 rfl ?_
  refine g_iload_n hX 1 rfl dX8_no_1 rfl ?_
  refine g_if_eq (tgt := 9) hX dX8_no_2 (by decide) (fun c_2 => ?_) (fun c_2 => ?_)
  · refine g_iload_n hX 2 rfl dX8_no_9 rfl ?_
    refine g_putI hX (i := 0) 12 15 q_inX8 h0 hk0 (by decide) rfl (by decide) rfl q_w1 rfl tyX8_ok nmX8 rfl (ty := .int) (by decide +kernel) rfl rfl dX8_no_10 ?_
    refine g_iload_n hX 1 rfl dX8_no_13 rfl ?_
    refine g_if_ne (tgt := 21) hX dX8_no_14 (by decide) (fun c_14 => ?_) (fun c_14 => ?_)
    · first | exact absurd c_2 c_14 | exact absurd c_14 c_2
    · refine g_iconst hX (1) dX8_no_17 rfl ?_
      refine g_goto (tgt := 22) hX dX8_no_18 (by decide) ?_
      refine b_zret hX rfl hE dX8_no_22 (by omega) (by omega) ?_
      exact ⟨by rw [if_pos c_2], if_pos c_2⟩
  · refine g_iconst hX (0) dX8_no_5 rfl ?_
    refine g_goto (tgt := 10) hX dX8_no_6 (by decide) ?_
    refine g_putI hX (i := 0) 12 15 q_inX8 h0 hk0 (by decide) rfl (by decide) rfl q_w1 rfl tyX8_ok nmX8 rfl (ty := .int) (by decide +kernel) rfl rfl dX8_no_10 ?_
    refine g_iload_n hX 1 rfl dX8_no_13 rfl ?_
    refine g_if_ne (tgt := 21) hX dX8_no_14 (by decide) (fun c_14 => ?_) (fun c_14 => ?_)
    · refine g_iconst hX (0) dX8_no_21 rfl ?_
      refine b_zret hX rfl hE dX8_no_22 (by omega) (by omega) ?_
      exact ⟨by rw [if_neg c_2], if_neg c_2⟩
    · first | exact absurd c_2 c_14 | exact absurd c_14 c_2
abbrev rm_X8_noPlay : Room := { frames := 1, cells := 0, slots := 0, locals := 22 }
theorem hd_X8_noPlay : yX8_noPlay.cls = RX8 ∧ yX8_noPlay.cls ≠ "java/lang/invoke/MethodHandle" ∧ yX8_noPlay.cls ≠ "java/lang/invoke/VarHandle" ∧ (parseMethodDescriptor yX8_noPlay.desc).map (fun d => d.parameters.length) = some 0 := by decide +kernel
set_option maxRecDepth 100000 in
set_option maxHeartbeats 4000000 in
theorem k_X8_noPlay {D : va_G} {dT : Nat → ClassId} {Z : ZT} {K N : Nat → Nat} {I : Nat → Nat → Int32} {Rr : Nat → Nat → Option Nat} {ad : Nat → Nat} {L : List Nat} (h0 : 0 ∈ L) (hk0 : K 0 = 12) : ∀ l8, BI l8 yX8_noPlay wsX8_noPlay rm_X8_noPlay D (tyl dT) Z ad L (pf dT K N I Rr ad) [.ref (ad 0)] 0 0 (fun r u => u = (ad, L, pf dT K N (up2 I 0 15 (if I 0 6 < 0 then 1 else 0)) Rr ad) ∧ (if I 0 6 < 0 then 1 else 0) = r) := by
  intro l9
  refine bi_of (own := RX8) (cc := cX8_noPlay) (maxL := 1) (some .boolean) [(0, .ref (ad 0))] (by decide) rfl rfl rfl (Nat.le_of_ble_eq_true rfl) ?_
  intro X hX hE hN hM
  have q_w1 : Cond.fieldLink RX8 36 "PerforatumModel" "played" "I" ∈ wsX8_noPlay := List.mem_of_getElem? (i := 1) rfl
  have q_inX8 : ∀ w ∈ wsX80, w ∈ wsX8_noPlay := by decide +kernel
  refine g_aload_n hX 0 rfl dX8_noPlay_0 rfl ?_
  refine g_aload_n hX 0 rfl dX8_noPlay_1 rfl ?_
  refine g_getI (i := 0) hX 12 6 q_inX8 h0 hk0 (by decide) rfl (by decide) rfl q_w1 rfl dX8_noPlay_2 ?_
  refine g_if_lt (tgt := 12) hX dX8_noPlay_5 (by decide) (fun c_5 => ?_) (fun c_5 => ?_)
  · refine g_iconst hX (0) dX8_noPlay_12 rfl ?_
    refine g_iconst hX (1) dX8_noPlay_13 rfl ?_
    refine b_callI_V hX hM (b := 0) [.int 0, .int 1] h0 (pf_obj hk0 (by decide)) rfl (k_X8_no h0 hk0 0 1) gX8_noPlay_X8_no rfl rfl rfl hd_X8_no ⟨Nat.le_of_ble_eq_true rfl, Nat.le_of_ble_eq_true rfl⟩ ⟨Nat.le_of_ble_eq_true rfl, Nat.le_of_ble_eq_true rfl⟩ rfl (Nat.le_of_ble_eq_true rfl) dX8_noPlay_14 (fun r9 ad9 L9 f9 hp9 => ?_)
    obtain ⟨he9, hr9⟩ := hp9
    cases he9
    subst hr9
    rw [show (if (0 : Int32) = 0 then (1 : Int32) else 0) = 1 from by decide]
    refine g_eqi (y := 1) (by decide) ?_
    refine b_zret hX rfl hE dX8_noPlay_17 (by omega) (by omega) ?_
    exact ⟨by rw [if_pos c_5], by rw [if_pos c_5]⟩
  · refine g_iconst hX (1) dX8_noPlay_8 rfl ?_
    refine g_goto (tgt := 13) hX dX8_noPlay_9 (by decide) ?_
    refine g_iconst hX (1) dX8_noPlay_13 rfl ?_
    refine b_callI_V hX hM (b := 0) [.int 1, .int 1] h0 (pf_obj hk0 (by decide)) rfl (k_X8_no h0 hk0 1 1) gX8_noPlay_X8_no rfl rfl rfl hd_X8_no ⟨Nat.le_of_ble_eq_true rfl, Nat.le_of_ble_eq_true rfl⟩ ⟨Nat.le_of_ble_eq_true rfl, Nat.le_of_ble_eq_true rfl⟩ rfl (Nat.le_of_ble_eq_true rfl) dX8_noPlay_14 (fun r9 ad9 L9 f9 hp9 => ?_)
    obtain ⟨he9, hr9⟩ := hp9
    cases he9
    subst hr9
    rw [show (if (1 : Int32) = 0 then (1 : Int32) else 0) = 0 from by decide]
    refine g_eqi (y := 0) (by decide) ?_
    refine b_zret hX rfl hE dX8_noPlay_17 (by omega) (by omega) ?_
    exact ⟨by rw [if_neg c_5], by rw [if_neg c_5]⟩
abbrev rm_X8_isPlaying : Room := { frames := 0, cells := 0, slots := 0, locals := 0 }
theorem hd_X8_isPlaying : yX8_isPlaying.cls = RX8 ∧ yX8_isPlaying.cls ≠ "java/lang/invoke/MethodHandle" ∧ yX8_isPlaying.cls ≠ "java/lang/invoke/VarHandle" ∧ (parseMethodDescriptor yX8_isPlaying.desc).map (fun d => d.parameters.length) = some 0 := by decide +kernel
set_option maxRecDepth 100000 in
set_option maxHeartbeats 4000000 in
theorem k_X8_isPlaying {D : va_G} {dT : Nat → ClassId} {Z : ZT} {K N : Nat → Nat} {I : Nat → Nat → Int32} {Rr : Nat → Nat → Option Nat} {ad : Nat → Nat} {L : List Nat} (h0 : 0 ∈ L) (hk0 : K 0 = 12) : ∀ l8, BI l8 yX8_isPlaying wsX8_isPlaying rm_X8_isPlaying D (tyl dT) Z ad L (pf dT K N I Rr ad) [.ref (ad 0)] 0 0 (fun r u => u = (ad, L, pf dT K N I Rr ad) ∧ (if I 0 6 < 0 then 0 else 1) = r) := by
  intro l9
  refine bi_of (own := RX8) (cc := cX8_isPlaying) (maxL := 1) (some .boolean) [(0, .ref (ad 0))] (by decide) rfl rfl rfl (Nat.le_of_ble_eq_true rfl) ?_
  intro X hX hE hN hM
  have q_w1 : Cond.fieldLink RX8 36 "PerforatumModel" "played" "I" ∈ wsX8_isPlaying := List.mem_of_getElem? (i := 1) rfl
  have q_inX8 : ∀ w ∈ wsX80, w ∈ wsX8_isPlaying := by decide +kernel
  refine g_aload_n hX 0 rfl dX8_isPlaying_0 rfl ?_
  refine g_getI (i := 0) hX 12 6 q_inX8 h0 hk0 (by decide) rfl (by decide) rfl q_w1 rfl dX8_isPlaying_1 ?_
  refine g_if_lt (tgt := 11) hX dX8_isPlaying_4 (by decide) (fun c_4 => ?_) (fun c_4 => ?_)
  · refine g_iconst hX (0) dX8_isPlaying_11 rfl ?_
    refine b_zret hX rfl hE dX8_isPlaying_12 (by omega) (by omega) ?_
    exact ⟨rfl, if_pos c_4⟩
  · refine g_iconst hX (1) dX8_isPlaying_7 rfl ?_
    refine g_goto (tgt := 12) hX dX8_isPlaying_8 (by decide) ?_
    refine b_zret hX rfl hE dX8_isPlaying_12 (by omega) (by omega) ?_
    exact ⟨rfl, if_neg c_4⟩
abbrev rm_X8_isRoll : Room := { frames := 1, cells := 0, slots := 0, locals := 22 }
theorem hd_X8_isRoll : yX8_isRoll.cls = RX8 ∧ yX8_isRoll.cls ≠ "java/lang/invoke/MethodHandle" ∧ yX8_isRoll.cls ≠ "java/lang/invoke/VarHandle" ∧ (parseMethodDescriptor yX8_isRoll.desc).map (fun d => d.parameters.length) = some 1 := by decide +kernel
set_option maxRecDepth 100000 in
set_option maxHeartbeats 4000000 in
theorem k_X8_isRoll {D : va_G} {dT : Nat → ClassId} {Z : ZT} {K N : Nat → Nat} {I : Nat → Nat → Int32} {Rr : Nat → Nat → Option Nat} {ad : Nat → Nat} {L : List Nat} (h0 : 0 ∈ L) (hk0 : K 0 = 12) (h1 : 1 ∈ L) (hk1 : K 1 = 3) (hr0 : Rr 0 0 = some 1) (v : Int32) : ∀ l8, BI l8 yX8_isRoll wsX8_isRoll rm_X8_isRoll D (tyl dT) Z ad L (pf dT K N I Rr ad) [.ref (ad 0), .int v] 0 0 (fun r u => u = (ad, L, pf dT K N I Rr ad) ∧ isi v 0 (I 1 2 - 1) = r) := by
  intro l9
  refine bi_of (own := RX8) (cc := cX8_isRoll) (maxL := 2) (some .boolean) [(0, .ref (ad 0)), (1, .int v)] (by decide) rfl rfl rfl (Nat.le_of_ble_eq_true rfl) ?_
  intro X hX hE hN hM
  have q_w1 : Cond.fieldLink RX8 10 "PerforatumModel" "rolls" "Ljava/util/List;" ∈ wsX8_isRoll := List.mem_of_getElem? (i := 1) rfl
  have q_inX8 : ∀ w ∈ wsX80, w ∈ wsX8_isRoll := by decide +kernel
  refine g_iload_n hX 1 rfl dX8_isRoll_0 rfl ?_
  refine g_iconst hX (0) dX8_isRoll_1 rfl ?_
  refine g_aload_n hX 0 rfl dX8_isRoll_2 rfl ?_
  refine g_getRs (i := 0) hX 12 0 q_inX8 h0 hk0 (by decide) rfl (by decide) rfl q_w1 rfl (j := 1) hr0 dX8_isRoll_3 ?_
  refine b_callI_F hX hM (b := 1) [] h1 (pf_obj hk1 (by decide)) rfl (k_Jx4a65c_size_8abf5 1 h1 hk1) gX8_isRoll_Jx4a65c_size_8abf5_f54Jx4a65c (by decide +kernel) rfl rfl rfl hdF_size ⟨Nat.le_of_ble_eq_true rfl, Nat.le_of_ble_eq_true rfl⟩ ⟨Nat.le_of_ble_eq_true rfl, Nat.le_of_ble_eq_true rfl⟩ rfl (Nat.le_of_ble_eq_true rfl) dX8_isRoll_6 (fun r9 ad9 L9 f9 hp9 => ?_)
  obtain ⟨he9, hr9⟩ := hp9
  cases he9
  subst hr9
  refine g_iconst hX (1) dX8_isRoll_11 rfl ?_
  refine g_isub hX dX8_isRoll_12 ?_
  refine b_callI_S hX hM [.int v, .int 0, .int ((I 1 2) - 1)] (k_X8_isIn v 0 ((I 1 2) - 1)) gX8_isRoll_X8_isIn rfl rfl rfl hd_X8_isIn.2 ⟨Nat.le_of_ble_eq_true rfl, Nat.le_of_ble_eq_true rfl⟩ ⟨Nat.le_of_ble_eq_true rfl, Nat.le_of_ble_eq_true rfl⟩ rfl (Nat.le_of_ble_eq_true rfl) dX8_isRoll_13 (fun r9 ad9 L9 f9 hp9 => ?_)
  obtain ⟨he9, hr9⟩ := hp9
  cases he9
  subst hr9
  refine b_zret hX (nz_isi _ _ _) hE dX8_isRoll_16 (by omega) (by omega) ?_
  exact ⟨rfl, rfl⟩
