set_option maxRecDepth 100000 in
set_option maxHeartbeats 4000000 in
theorem k_J6_compare_7cf53B {D : va_G} {dT : Nat → ClassId} {Z : ZT} {K N : Nat → Nat} {I : Nat → Nat → Int32} {Rr : Nat → Nat → Option Nat} {ad : Nat → Nat} {L : List Nat} (x y : Int32) : ∀ l8, BI l8 yJ6_compare_7cf53 wsJ6_compare_7cf53 rm_J6_compare_7cf53 D (tyl dT) Z ad L (pf dT K N I Rr ad) [.int x, .int y] 0 0 (fun r u => u = (ad, L, pf dT K N I Rr ad) ∧ cmp3 x y = r) := by
  intro l9
  refine bi_of (own := RJ6) (cc := cJ6_compare_7cf53) (maxL := 2) (some .int) [(0, .int x), (1, .int y)] (by decide) rfl rfl rfl (Nat.le_of_ble_eq_true rfl) ?_
  intro X hX hE hN hM
  refine g_iload_n hX 0 rfl dJ6_compare_7cf53_0 rfl ?_
  refine g_iload_n hX 1 rfl dJ6_compare_7cf53_1 rfl ?_
  refine g_icmp_ge (tgt := 9) hX dJ6_compare_7cf53_2 (by decide) (fun c_2 => ?_) (fun c_2 => ?_)
  · refine g_iload_n hX 0 rfl dJ6_compare_7cf53_9 rfl ?_
    refine g_iload_n hX 1 rfl dJ6_compare_7cf53_10 rfl ?_
    refine g_icmp_ne (tgt := 18) hX dJ6_compare_7cf53_11 (by decide) (fun c_11 => ?_) (fun c_11 => ?_)
    · refine g_iconst hX (1) dJ6_compare_7cf53_18 rfl ?_
      refine b_iret hX hE dJ6_compare_7cf53_19 (by omega) (by omega) ?_
      exact ⟨rfl, by unfold cmp3; simp [c_2, c_11]⟩
    · refine g_iconst hX (0) dJ6_compare_7cf53_14 rfl ?_
      refine g_goto (tgt := 19) hX dJ6_compare_7cf53_15 (by decide) ?_
      refine b_iret hX hE dJ6_compare_7cf53_19 (by omega) (by omega) ?_
      exact ⟨rfl, by unfold cmp3; simp [c_2, c_11]⟩
  · refine g_iconst hX (-1) dJ6_compare_7cf53_5 rfl ?_
    refine g_goto (tgt := 19) hX dJ6_compare_7cf53_6 (by decide) ?_
    refine b_iret hX hE dJ6_compare_7cf53_19 (by omega) (by omega) ?_
    exact ⟨rfl, by unfold cmp3; simp [c_2]⟩
abbrev rm_X8_length : Room := { frames := 4, cells := 0, slots := 0, locals := 88 }
theorem hd_X8_length : yX8_length.cls = RX8 ∧ yX8_length.cls ≠ "java/lang/invoke/MethodHandle" ∧ yX8_length.cls ≠ "java/lang/invoke/VarHandle" ∧ (parseMethodDescriptor yX8_length.desc).map (fun d => d.parameters.length) = some 1 := by decide +kernel
set_option maxRecDepth 100000 in
set_option maxHeartbeats 4000000 in
theorem k_X8_length {D : va_G} {dT : Nat → ClassId} {Z : ZT} {ad : Nat → Nat} (M : Nat → Nat → Int32) (S : SZ) (hS : WS S) (hw1 : M 1 2 = nI S.1) (hw2 : M 2 2 = nI S.2.1) (hw3 : M 3 2 = nI S.2.2.1) (v : Int32) : ∀ l8, BI l8 yX8_length wsX8_length rm_X8_length D (tyl dT) Z ad (mL S) (pf dT mK mN M (mR S) ad) [.ref (ad 0), .int v] 0 0 (fun r u => u = (ad, mL S, mf dT ad (up2 M 0 15 (r1C S v)) S) ∧ (if r1C S v = 0 then nI (lenM (up2 M 0 15 0) v.toNatClampNeg 200) else 0) = r) := by
  intro l9
  refine bi_of (own := RX8) (cc := cX8_length) (maxL := 2) (some .int) [(0, .ref (ad 0)), (1, .int v)] (by decide) rfl rfl rfl (Nat.le_of_ble_eq_true rfl) ?_
  intro X hX hE hN hM
  have hS1 := hS.1
  have hS2 := hS.2.1
  have hS3 := hS.2.2.1
  refine g_aload_n hX 0 rfl dX8_length_0 rfl ?_
  refine g_aload_n hX 0 rfl dX8_length_1 rfl ?_
  refine g_iload_n hX 1 rfl dX8_length_2 rfl ?_
  refine b_callI_V hX hM (b := 0) [.int v] (m_lo (by decide)) (pf_obj rfl (by decide)) rfl (k_X8_isRoll (m_lo (by decide)) rfl (m_lo (by decide)) rfl rfl v) gX8_length_X8_isRoll rfl rfl rfl hd_X8_isRoll ⟨Nat.le_of_ble_eq_true rfl, Nat.le_of_ble_eq_true rfl⟩ ⟨Nat.le_of_ble_eq_true rfl, Nat.le_of_ble_eq_true rfl⟩ rfl (Nat.le_of_ble_eq_true rfl) dX8_length_3 (fun r9 ad9 L9 f9 hp9 => ?_)
  obtain ⟨he9, hr9⟩ := hp9
  cases he9
  subst hr9
  refine g_eqi (y := isi v 0 (nI S.1 - 1)) (by rw [hw1]) ?_
  refine g_iconst hX (1) dX8_length_6 rfl ?_
  refine b_callI_V hX hM (b := 0) [.int (isi v 0 (nI S.1 - 1)), .int 1] (m_lo (by decide)) (pf_obj rfl (by decide)) rfl (k_X8_no (m_lo (by decide)) rfl (isi v 0 (nI S.1 - 1)) 1) gX8_length_X8_no rfl rfl rfl hd_X8_no ⟨Nat.le_of_ble_eq_true rfl, Nat.le_of_ble_eq_true rfl⟩ ⟨Nat.le_of_ble_eq_true rfl, Nat.le_of_ble_eq_true rfl⟩ rfl (Nat.le_of_ble_eq_true rfl) dX8_length_7 (fun r9 ad9 L9 f9 hp9 => ?_)
  obtain ⟨he9, hr9⟩ := hp9
  cases he9
  subst hr9
  refine g_if_eq (tgt := 17) hX dX8_length_10 (by decide) (fun c_10 => ?_) (fun c_10 => ?_)
  · have c_10 := z10 c_10
    rw [show (up2 M 0 15 (if (isi v 0 (nI S.1 - 1)) = 0 then 1 else 0)) = up2 M 0 15 0 from by simp [up2_ss, c_10]]
    obtain ⟨j, hj, rfl⟩ := isi_n c_10 (by have := hS.1; omega)
    refine g_aload_n hX 0 rfl dX8_length_17 rfl ?_
    refine g_iload_n hX 1 rfl dX8_length_18 rfl ?_
    refine b_callI_V hX hM (b := 0) [.int (nI j)] (m_lo (by decide)) (pf_obj rfl (by decide)) rfl (k_X8_lengthOf (up2 M 0 15 0) S hS ((up2_n (Or.inl (by decide))).trans hw1) ((up2_n (Or.inl (by decide))).trans hw2) ((up2_n (Or.inl (by decide))).trans hw3) j hj) gX8_length_X8_lengthOf rfl rfl rfl hd_X8_lengthOf ⟨Nat.le_of_ble_eq_true rfl, Nat.le_of_ble_eq_true rfl⟩ ⟨Nat.le_of_ble_eq_true rfl, Nat.le_of_ble_eq_true rfl⟩ rfl (Nat.le_of_ble_eq_true rfl) dX8_length_19 (fun r9 ad9 L9 f9 hp9 => ?_)
    obtain ⟨he9, hr9⟩ := hp9
    cases he9
    subst hr9
    refine b_iret hX hE dX8_length_22 (by omega) (by omega) ?_
    exact ⟨congrArg (fun z => (ad, mL S, mf dT ad z S)) (by simp [r1C, c_10]), by simp [r1C, c_10, nI_clamp (n := j) (by have := hS.1; omega)]⟩
  · have c_10 := z11 c_10
    refine g_iconst hX (0) dX8_length_13 rfl ?_
    refine g_goto (tgt := 22) hX dX8_length_14 (by decide) ?_
    refine b_iret hX hE dX8_length_22 (by omega) (by omega) ?_
    exact ⟨congrArg (fun z => (ad, mL S, mf dT ad z S)) (by simp [r1C, c_10]), by simp [r1C, c_10]⟩
abbrev rm_X8_holes : Room := { frames := 4, cells := 0, slots := 0, locals := 88 }
theorem hd_X8_holes : yX8_holes.cls = RX8 ∧ yX8_holes.cls ≠ "java/lang/invoke/MethodHandle" ∧ yX8_holes.cls ≠ "java/lang/invoke/VarHandle" ∧ (parseMethodDescriptor yX8_holes.desc).map (fun d => d.parameters.length) = some 2 := by decide +kernel
set_option maxRecDepth 100000 in
set_option maxHeartbeats 4000000 in
theorem k_X8_holes {D : va_G} {dT : Nat → ClassId} {Z : ZT} {ad : Nat → Nat} (M : Nat → Nat → Int32) (S : SZ) (hS : WS S) (hw1 : M 1 2 = nI S.1) (hw2 : M 2 2 = nI S.2.1) (hw3 : M 3 2 = nI S.2.2.1) (v t : Int32) : ∀ l8, BI l8 yX8_holes wsX8_holes rm_X8_holes D (tyl dT) Z ad (mL S) (pf dT mK mN M (mR S) ad) [.ref (ad 0), .int v, .int t] 0 0 (fun r u => u = (ad, mL S, mf dT ad (up2 M 0 15 (hlC S v t)) S) ∧ (if hlC S v t = 0 then nI (hoM (up2 M 0 15 0) v.toNatClampNeg t.toNatClampNeg 200) else 0) = r) := by
  intro l9
  refine bi_of (own := RX8) (cc := cX8_holes) (maxL := 3) (some .int) [(0, .ref (ad 0)), (1, .int v), (2, .int t)] (by decide) rfl rfl rfl (Nat.le_of_ble_eq_true rfl) ?_
  intro X hX hE hN hM
  have hS1 := hS.1
  have hS2 := hS.2.1
  have hS3 := hS.2.2.1
  refine g_aload_n hX 0 rfl dX8_holes_0 rfl ?_
  refine g_aload_n hX 0 rfl dX8_holes_1 rfl ?_
  refine g_iload_n hX 1 rfl dX8_holes_2 rfl ?_
  refine b_callI_V hX hM (b := 0) [.int v] (m_lo (by decide)) (pf_obj rfl (by decide)) rfl (k_X8_isRoll (m_lo (by decide)) rfl (m_lo (by decide)) rfl rfl v) gX8_holes_X8_isRoll rfl rfl rfl hd_X8_isRoll ⟨Nat.le_of_ble_eq_true rfl, Nat.le_of_ble_eq_true rfl⟩ ⟨Nat.le_of_ble_eq_true rfl, Nat.le_of_ble_eq_true rfl⟩ rfl (Nat.le_of_ble_eq_true rfl) dX8_holes_3 (fun r9 ad9 L9 f9 hp9 => ?_)
  obtain ⟨he9, hr9⟩ := hp9
  cases he9
  subst hr9
  refine g_eqi (y := isi v 0 (nI S.1 - 1)) (by rw [hw1]) ?_
  refine g_iconst hX (1) dX8_holes_6 rfl ?_
  refine b_callI_V hX hM (b := 0) [.int (isi v 0 (nI S.1 - 1)), .int 1] (m_lo (by decide)) (pf_obj rfl (by decide)) rfl (k_X8_no (m_lo (by decide)) rfl (isi v 0 (nI S.1 - 1)) 1) gX8_holes_X8_no rfl rfl rfl hd_X8_no ⟨Nat.le_of_ble_eq_true rfl, Nat.le_of_ble_eq_true rfl⟩ ⟨Nat.le_of_ble_eq_true rfl, Nat.le_of_ble_eq_true rfl⟩ rfl (Nat.le_of_ble_eq_true rfl) dX8_holes_7 (fun r9 ad9 L9 f9 hp9 => ?_)
  obtain ⟨he9, hr9⟩ := hp9
  cases he9
  subst hr9
  refine g_if_ne (tgt := 28) hX dX8_holes_10 (by decide) (fun c_10 => ?_) (fun c_10 => ?_)
  · have c_10 := z11 c_10
    refine g_iconst hX (0) dX8_holes_28 rfl ?_
    refine g_goto (tgt := 38) hX dX8_holes_29 (by decide) ?_
    refine b_iret hX hE dX8_holes_38 (by omega) (by omega) ?_
    exact ⟨congrArg (fun z => (ad, mL S, mf dT ad z S)) (by simp [up2_ss, hlC, c_10]), by simp [hlC, c_10]⟩
  · have c_10 := z10 c_10
    refine g_aload_n hX 0 rfl dX8_holes_13 rfl ?_
    refine g_iload_n hX 2 rfl dX8_holes_14 rfl ?_
    refine g_iconst hX (0) dX8_holes_15 rfl ?_
    refine g_bipush hX (15) dX8_holes_16 rfl ?_
    refine b_callI_S hX hM [.int t, .int 0, .int 15] (k_X8_isIn t 0 15) gX8_holes_X8_isIn rfl rfl rfl hd_X8_isIn.2 ⟨Nat.le_of_ble_eq_true rfl, Nat.le_of_ble_eq_true rfl⟩ ⟨Nat.le_of_ble_eq_true rfl, Nat.le_of_ble_eq_true rfl⟩ rfl (Nat.le_of_ble_eq_true rfl) dX8_holes_18 (fun r9 ad9 L9 f9 hp9 => ?_)
    obtain ⟨he9, hr9⟩ := hp9
    cases he9
    subst hr9
    refine g_iconst hX (2) dX8_holes_21 rfl ?_
    refine b_callI_V hX hM (b := 0) [.int (isi t 0 15), .int 2] (m_lo (by decide)) (pf_obj rfl (by decide)) rfl (k_X8_no (m_lo (by decide)) rfl (isi t 0 15) 2) gX8_holes_X8_no rfl rfl rfl hd_X8_no ⟨Nat.le_of_ble_eq_true rfl, Nat.le_of_ble_eq_true rfl⟩ ⟨Nat.le_of_ble_eq_true rfl, Nat.le_of_ble_eq_true rfl⟩ rfl (Nat.le_of_ble_eq_true rfl) dX8_holes_22 (fun r9 ad9 L9 f9 hp9 => ?_)
    obtain ⟨he9, hr9⟩ := hp9
    cases he9
    subst hr9
    refine g_if_eq (tgt := 32) hX dX8_holes_25 (by decide) (fun c_25 => ?_) (fun c_25 => ?_)
    · have c_25 := z10 c_25
      rw [show (up2 (up2 M 0 15 (if (isi v 0 (nI S.1 - 1)) = 0 then 1 else 0)) 0 15 (if (isi t 0 15) = 0 then 2 else 0)) = up2 M 0 15 0 from by simp [up2_ss, c_10, c_25]]
      obtain ⟨j, hj, rfl⟩ := isi_n c_10 (by have := hS.1; omega)
      obtain ⟨k, hk, rfl⟩ := isi_k (n := 15) c_25 (by decide) (by decide)
      refine g_aload_n hX 0 rfl dX8_holes_32 rfl ?_
      refine g_iload_n hX 1 rfl dX8_holes_33 rfl ?_
      refine g_iload_n hX 2 rfl dX8_holes_34 rfl ?_
      refine b_callI_V hX hM (b := 0) [.int (nI j), .int (nI k)] (m_lo (by decide)) (pf_obj rfl (by decide)) rfl (k_X8_holesAt (up2 M 0 15 0) S hS ((up2_n (Or.inl (by decide))).trans hw1) ((up2_n (Or.inl (by decide))).trans hw2) ((up2_n (Or.inl (by decide))).trans hw3) j k hj (by omega)) gX8_holes_X8_holesAt rfl rfl rfl hd_X8_holesAt ⟨Nat.le_of_ble_eq_true rfl, Nat.le_of_ble_eq_true rfl⟩ ⟨Nat.le_of_ble_eq_true rfl, Nat.le_of_ble_eq_true rfl⟩ rfl (Nat.le_of_ble_eq_true rfl) dX8_holes_35 (fun r9 ad9 L9 f9 hp9 => ?_)
      obtain ⟨he9, hr9⟩ := hp9
      cases he9
      subst hr9
      refine b_iret hX hE dX8_holes_38 (by omega) (by omega) ?_
      exact ⟨congrArg (fun z => (ad, mL S, mf dT ad z S)) (by simp [up2_ss, hlC, c_10, c_25]), by simp [hlC, c_10, c_25, nI_clamp (n := j) (by have := hS.1; omega), nI_clamp (n := k) (by omega)]⟩
    · have c_25 := z11 c_25
      refine g_iconst hX (0) dX8_holes_28 rfl ?_
      refine g_goto (tgt := 38) hX dX8_holes_29 (by decide) ?_
      refine b_iret hX hE dX8_holes_38 (by omega) (by omega) ?_
      exact ⟨congrArg (fun z => (ad, mL S, mf dT ad z S)) (by simp [up2_ss, hlC, c_10, c_25]), by simp [hlC, c_10, c_25]⟩
abbrev rm_X8_unlike : Room := { frames := 4, cells := 0, slots := 0, locals := 89 }
theorem hd_X8_unlike : yX8_unlike.cls = RX8 ∧ yX8_unlike.cls ≠ "java/lang/invoke/MethodHandle" ∧ yX8_unlike.cls ≠ "java/lang/invoke/VarHandle" ∧ (parseMethodDescriptor yX8_unlike.desc).map (fun d => d.parameters.length) = some 2 := by decide +kernel
set_option maxRecDepth 100000 in
set_option maxHeartbeats 4000000 in
theorem k_X8_unlike {D : va_G} {dT : Nat → ClassId} {Z : ZT} {ad : Nat → Nat} (M : Nat → Nat → Int32) (S : SZ) (hS : WS S) (hw1 : M 1 2 = nI S.1) (hw2 : M 2 2 = nI S.2.1) (hw3 : M 3 2 = nI S.2.2.1) (v w : Int32) : ∀ l8, BI l8 yX8_unlike wsX8_unlike rm_X8_unlike D (tyl dT) Z ad (mL S) (pf dT mK mN M (mR S) ad) [.ref (ad 0), .int v, .int w] 0 0 (fun r u => u = (ad, mL S, mf dT ad (up2 M 0 15 (unC S v w)) S) ∧ (if unC S v w = 0 then nI (apM (up2 M 0 15 0) v.toNatClampNeg w.toNatClampNeg 200) else 0) = r) := by
  intro l9
  refine bi_of (own := RX8) (cc := cX8_unlike) (maxL := 3) (some .int) [(0, .ref (ad 0)), (1, .int v), (2, .int w)] (by decide) rfl rfl rfl (Nat.le_of_ble_eq_true rfl) ?_
  intro X hX hE hN hM
  have hS1 := hS.1
  have hS2 := hS.2.1
  have hS3 := hS.2.2.1
  refine g_aload_n hX 0 rfl dX8_unlike_0 rfl ?_
  refine g_aload_n hX 0 rfl dX8_unlike_1 rfl ?_
  refine g_iload_n hX 1 rfl dX8_unlike_2 rfl ?_
  refine b_callI_V hX hM (b := 0) [.int v] (m_lo (by decide)) (pf_obj rfl (by decide)) rfl (k_X8_isRoll (m_lo (by decide)) rfl (m_lo (by decide)) rfl rfl v) gX8_unlike_X8_isRoll rfl rfl rfl hd_X8_isRoll ⟨Nat.le_of_ble_eq_true rfl, Nat.le_of_ble_eq_true rfl⟩ ⟨Nat.le_of_ble_eq_true rfl, Nat.le_of_ble_eq_true rfl⟩ rfl (Nat.le_of_ble_eq_true rfl) dX8_unlike_3 (fun r9 ad9 L9 f9 hp9 => ?_)
  obtain ⟨he9, hr9⟩ := hp9
  cases he9
  subst hr9
  refine g_eqi (y := isi v 0 (nI S.1 - 1)) (by rw [hw1]) ?_
  refine g_if_eq (tgt := 21) hX dX8_unlike_6 (by decide) (fun c_6 => ?_) (fun c_6 => ?_)
  · refine g_iconst hX (0) dX8_unlike_21 rfl ?_
    refine g_iconst hX (1) dX8_unlike_22 rfl ?_
    refine b_callI_V hX hM (b := 0) [.int 0, .int 1] (m_lo (by decide)) (pf_obj rfl (by decide)) rfl (k_X8_no (m_lo (by decide)) rfl 0 1) gX8_unlike_X8_no rfl rfl rfl hd_X8_no ⟨Nat.le_of_ble_eq_true rfl, Nat.le_of_ble_eq_true rfl⟩ ⟨Nat.le_of_ble_eq_true rfl, Nat.le_of_ble_eq_true rfl⟩ rfl (Nat.le_of_ble_eq_true rfl) dX8_unlike_23 (fun r9 ad9 L9 f9 hp9 => ?_)
    obtain ⟨he9, hr9⟩ := hp9
    cases he9
    subst hr9
    rw [show (if (0 : Int32) = 0 then (1 : Int32) else 0) = 1 from by decide]
    refine g_eqi (y := 1) (by decide) ?_
    refine g_if_eq (tgt := 33) hX dX8_unlike_26 (by decide) (fun c_26 => ?_) (fun c_26 => ?_)
    · first | exact absurd c_26 (by decide) | exact absurd (by decide) c_26
    · refine g_iconst hX (0) dX8_unlike_29 rfl ?_
      refine g_goto (tgt := 39) hX dX8_unlike_30 (by decide) ?_
      refine b_iret hX hE dX8_unlike_39 (by omega) (by omega) ?_
      exact ⟨congrArg (fun z => (ad, mL S, mf dT ad z S)) (by simp [unC, c_6]), by simp [unC, c_6]⟩
  · refine g_aload_n hX 0 rfl dX8_unlike_9 rfl ?_
    refine g_iload_n hX 2 rfl dX8_unlike_10 rfl ?_
    refine b_callI_V hX hM (b := 0) [.int w] (m_lo (by decide)) (pf_obj rfl (by decide)) rfl (k_X8_isRoll (m_lo (by decide)) rfl (m_lo (by decide)) rfl rfl w) gX8_unlike_X8_isRoll rfl rfl rfl hd_X8_isRoll ⟨Nat.le_of_ble_eq_true rfl, Nat.le_of_ble_eq_true rfl⟩ ⟨Nat.le_of_ble_eq_true rfl, Nat.le_of_ble_eq_true rfl⟩ rfl (Nat.le_of_ble_eq_true rfl) dX8_unlike_11 (fun r9 ad9 L9 f9 hp9 => ?_)
    obtain ⟨he9, hr9⟩ := hp9
    cases he9
    subst hr9
    refine g_eqi (y := isi w 0 (nI S.1 - 1)) (by rw [hw1]) ?_
    refine g_if_eq (tgt := 21) hX dX8_unlike_14 (by decide) (fun c_14 => ?_) (fun c_14 => ?_)
    · refine g_iconst hX (0) dX8_unlike_21 rfl ?_
      refine g_iconst hX (1) dX8_unlike_22 rfl ?_
      refine b_callI_V hX hM (b := 0) [.int 0, .int 1] (m_lo (by decide)) (pf_obj rfl (by decide)) rfl (k_X8_no (m_lo (by decide)) rfl 0 1) gX8_unlike_X8_no rfl rfl rfl hd_X8_no ⟨Nat.le_of_ble_eq_true rfl, Nat.le_of_ble_eq_true rfl⟩ ⟨Nat.le_of_ble_eq_true rfl, Nat.le_of_ble_eq_true rfl⟩ rfl (Nat.le_of_ble_eq_true rfl) dX8_unlike_23 (fun r9 ad9 L9 f9 hp9 => ?_)
      obtain ⟨he9, hr9⟩ := hp9
      cases he9
      subst hr9
      rw [show (if (0 : Int32) = 0 then (1 : Int32) else 0) = 1 from by decide]
      refine g_eqi (y := 1) (by decide) ?_
      refine g_if_eq (tgt := 33) hX dX8_unlike_26 (by decide) (fun c_26 => ?_) (fun c_26 => ?_)
      · first | exact absurd c_26 (by decide) | exact absurd (by decide) c_26
      · refine g_iconst hX (0) dX8_unlike_29 rfl ?_
        refine g_goto (tgt := 39) hX dX8_unlike_30 (by decide) ?_
        refine b_iret hX hE dX8_unlike_39 (by omega) (by omega) ?_
        exact ⟨congrArg (fun z => (ad, mL S, mf dT ad z S)) (by simp [unC, c_6, c_14]), by simp [unC, c_6, c_14]⟩
    · refine g_iconst hX (1) dX8_unlike_17 rfl ?_
      refine g_goto (tgt := 22) hX dX8_unlike_18 (by decide) ?_
      refine g_iconst hX (1) dX8_unlike_22 rfl ?_
      refine b_callI_V hX hM (b := 0) [.int 1, .int 1] (m_lo (by decide)) (pf_obj rfl (by decide)) rfl (k_X8_no (m_lo (by decide)) rfl 1 1) gX8_unlike_X8_no rfl rfl rfl hd_X8_no ⟨Nat.le_of_ble_eq_true rfl, Nat.le_of_ble_eq_true rfl⟩ ⟨Nat.le_of_ble_eq_true rfl, Nat.le_of_ble_eq_true rfl⟩ rfl (Nat.le_of_ble_eq_true rfl) dX8_unlike_23 (fun r9 ad9 L9 f9 hp9 => ?_)
      obtain ⟨he9, hr9⟩ := hp9
      cases he9
      subst hr9
      rw [show (if (1 : Int32) = 0 then (1 : Int32) else 0) = 0 from by decide]
      refine g_eqi (y := 0) (by decide) ?_
      refine g_if_eq (tgt := 33) hX dX8_unlike_26 (by decide) (fun c_26 => ?_) (fun c_26 => ?_)
      · rw [show (up2 M 0 15 0) = up2 M 0 15 0 from by simp [up2_ss, ]]
        obtain ⟨j, hj, rfl⟩ := isi_n c_6 (by have := hS.1; omega)
        obtain ⟨k, hk, rfl⟩ := isi_n c_14 (by have := hS.1; omega)
        refine g_aload_n hX 0 rfl dX8_unlike_33 rfl ?_
        refine g_iload_n hX 1 rfl dX8_unlike_34 rfl ?_
        refine g_iload_n hX 2 rfl dX8_unlike_35 rfl ?_
        refine b_callI_V hX hM (b := 0) [.int (nI j), .int (nI k)] (m_lo (by decide)) (pf_obj rfl (by decide)) rfl (k_X8_apart (up2 M 0 15 0) S hS ((up2_n (Or.inl (by decide))).trans hw1) ((up2_n (Or.inl (by decide))).trans hw2) ((up2_n (Or.inl (by decide))).trans hw3) j k hj hk) gX8_unlike_X8_apart rfl rfl rfl hd_X8_apart ⟨Nat.le_of_ble_eq_true rfl, Nat.le_of_ble_eq_true rfl⟩ ⟨Nat.le_of_ble_eq_true rfl, Nat.le_of_ble_eq_true rfl⟩ rfl (Nat.le_of_ble_eq_true rfl) dX8_unlike_36 (fun r9 ad9 L9 f9 hp9 => ?_)
        obtain ⟨he9, hr9⟩ := hp9
        cases he9
        subst hr9
        refine b_iret hX hE dX8_unlike_39 (by omega) (by omega) ?_
        exact ⟨congrArg (fun z => (ad, mL S, mf dT ad z S)) (by simp [unC, c_6, c_14]), by simp [unC, c_6, c_14, nI_clamp (n := j) (by have := hS.1; omega), nI_clamp (n := k) (by have := hS.1; omega)]⟩
      · first | exact absurd c_26 (by decide) | exact absurd (by decide) c_26
abbrev rm_X8_parent : Room := { frames := 4, cells := 0, slots := 0, locals := 89 }
theorem hd_X8_parent : yX8_parent.cls = RX8 ∧ yX8_parent.cls ≠ "java/lang/invoke/MethodHandle" ∧ yX8_parent.cls ≠ "java/lang/invoke/VarHandle" ∧ (parseMethodDescriptor yX8_parent.desc).map (fun d => d.parameters.length) = some 1 := by decide +kernel
set_option maxRecDepth 100000 in
set_option maxHeartbeats 4000000 in
theorem k_X8_parent {D : va_G} {dT : Nat → ClassId} {Z : ZT} {ad : Nat → Nat} (M : Nat → Nat → Int32) (S : SZ) (hS : WS S) (hw1 : M 1 2 = nI S.1) (hw2 : M 2 2 = nI S.2.1) (hw3 : M 3 2 = nI S.2.2.1) (v : Int32) : ∀ l8, BI l8 yX8_parent wsX8_parent rm_X8_parent D (tyl dT) Z ad (mL S) (pf dT mK mN M (mR S) ad) [.ref (ad 0), .int v] 0 0 (fun r u => u = (ad, mL S, mf dT ad (up2 M 0 15 (paC S v)) S) ∧ (if paC S v = 0 then nI (parM (up2 M 0 15 0) v.toNatClampNeg (v.toNatClampNeg - 1)) else 0) = r) := by
  intro l9
  refine bi_of (own := RX8) (cc := cX8_parent) (maxL := 4) (some .int) [(0, .ref (ad 0)), (1, .int v)] (by decide) rfl rfl rfl (Nat.le_of_ble_eq_true rfl) ?_
  intro X hX hE hN hM
  have hS1 := hS.1
  have hS2 := hS.2.1
  have hS3 := hS.2.2.1
  refine g_aload_n hX 0 rfl dX8_parent_0 rfl ?_
  refine g_aload_n hX 0 rfl dX8_parent_1 rfl ?_
  refine g_iload_n hX 1 rfl dX8_parent_2 rfl ?_
  refine b_callI_V hX hM (b := 0) [.int v] (m_lo (by decide)) (pf_obj rfl (by decide)) rfl (k_X8_isRoll (m_lo (by decide)) rfl (m_lo (by decide)) rfl rfl v) gX8_parent_X8_isRoll rfl rfl rfl hd_X8_isRoll ⟨Nat.le_of_ble_eq_true rfl, Nat.le_of_ble_eq_true rfl⟩ ⟨Nat.le_of_ble_eq_true rfl, Nat.le_of_ble_eq_true rfl⟩ rfl (Nat.le_of_ble_eq_true rfl) dX8_parent_3 (fun r9 ad9 L9 f9 hp9 => ?_)
  obtain ⟨he9, hr9⟩ := hp9
  cases he9
  subst hr9
  refine g_eqi (y := isi v 0 (nI S.1 - 1)) (by rw [hw1]) ?_
  refine g_iconst hX (1) dX8_parent_6 rfl ?_
  refine b_callI_V hX hM (b := 0) [.int (isi v 0 (nI S.1 - 1)), .int 1] (m_lo (by decide)) (pf_obj rfl (by decide)) rfl (k_X8_no (m_lo (by decide)) rfl (isi v 0 (nI S.1 - 1)) 1) gX8_parent_X8_no rfl rfl rfl hd_X8_no ⟨Nat.le_of_ble_eq_true rfl, Nat.le_of_ble_eq_true rfl⟩ ⟨Nat.le_of_ble_eq_true rfl, Nat.le_of_ble_eq_true rfl⟩ rfl (Nat.le_of_ble_eq_true rfl) dX8_parent_7 (fun r9 ad9 L9 f9 hp9 => ?_)
  obtain ⟨he9, hr9⟩ := hp9
  cases he9
  subst hr9
  refine g_if_ne (tgt := 30) hX dX8_parent_10 (by decide) (fun c_10 => ?_) (fun c_10 => ?_)
  · have c_10 := z11 c_10
    refine g_iconst hX (0) dX8_parent_30 rfl ?_
    refine b_iret hX hE dX8_parent_31 (by omega) (by omega) ?_
    exact ⟨congrArg (fun z => (ad, mL S, mf dT ad z S)) (by simp [up2_ss, paC, c_10]), by simp [paC, c_10]⟩
  · have c_10 := z10 c_10
    refine g_aload_n hX 0 rfl dX8_parent_13 rfl ?_
    refine g_iload_n hX 1 rfl dX8_parent_14 rfl ?_
    refine g_if_le (tgt := 22) hX dX8_parent_15 (by decide) (fun c_15 => ?_) (fun c_15 => ?_)
    · refine g_iconst hX (0) dX8_parent_22 rfl ?_
      refine g_iconst hX (2) dX8_parent_23 rfl ?_
      refine b_callI_V hX hM (b := 0) [.int 0, .int 2] (m_lo (by decide)) (pf_obj rfl (by decide)) rfl (k_X8_no (m_lo (by decide)) rfl 0 2) gX8_parent_X8_no rfl rfl rfl hd_X8_no ⟨Nat.le_of_ble_eq_true rfl, Nat.le_of_ble_eq_true rfl⟩ ⟨Nat.le_of_ble_eq_true rfl, Nat.le_of_ble_eq_true rfl⟩ rfl (Nat.le_of_ble_eq_true rfl) dX8_parent_24 (fun r9 ad9 L9 f9 hp9 => ?_)
      obtain ⟨he9, hr9⟩ := hp9
      cases he9
      subst hr9
      rw [show (if (0 : Int32) = 0 then (2 : Int32) else 0) = 2 from by decide]
      refine g_eqi (y := 1) (by decide) ?_
      refine g_if_eq (tgt := 32) hX dX8_parent_27 (by decide) (fun c_27 => ?_) (fun c_27 => ?_)
      · first | exact absurd c_27 (by decide) | exact absurd (by decide) c_27
      · refine g_iconst hX (0) dX8_parent_30 rfl ?_
        refine b_iret hX hE dX8_parent_31 (by omega) (by omega) ?_
        exact ⟨congrArg (fun z => (ad, mL S, mf dT ad z S)) (by simp [up2_ss, paC, c_10, c_15]), by simp [paC, c_10, c_15]⟩
    · refine g_iconst hX (1) dX8_parent_18 rfl ?_
      refine g_goto (tgt := 23) hX dX8_parent_19 (by decide) ?_
      refine g_iconst hX (2) dX8_parent_23 rfl ?_
      refine b_callI_V hX hM (b := 0) [.int 1, .int 2] (m_lo (by decide)) (pf_obj rfl (by decide)) rfl (k_X8_no (m_lo (by decide)) rfl 1 2) gX8_parent_X8_no rfl rfl rfl hd_X8_no ⟨Nat.le_of_ble_eq_true rfl, Nat.le_of_ble_eq_true rfl⟩ ⟨Nat.le_of_ble_eq_true rfl, Nat.le_of_ble_eq_true rfl⟩ rfl (Nat.le_of_ble_eq_true rfl) dX8_parent_24 (fun r9 ad9 L9 f9 hp9 => ?_)
      obtain ⟨he9, hr9⟩ := hp9
      cases he9
      subst hr9
      rw [show (if (1 : Int32) = 0 then (2 : Int32) else 0) = 0 from by decide]
      refine g_eqi (y := 0) (by decide) ?_
      refine g_if_eq (tgt := 32) hX dX8_parent_27 (by decide) (fun c_27 => ?_) (fun c_27 => ?_)
      · rw [show (up2 (up2 M 0 15 (if (isi v 0 (nI S.1 - 1)) = 0 then 1 else 0)) 0 15 0) = up2 M 0 15 0 from by simp [up2_ss, c_10, c_15]]
        obtain ⟨j, hj, rfl⟩ := isi_n c_10 (by have := hS.1; omega)
        have hj0 : 0 < j := Nat.pos_of_ne_zero (fun h => c_15 (by rw [h]; decide))
        refine g_iconst hX (0) dX8_parent_32 rfl ?_
        refine g_istore_n hX [(2, .int 0), (0, .ref (ad 0)), (1, .int (nI j))] rfl dX8_parent_33 rfl (by decide) ?_
        refine g_iconst hX (1) dX8_parent_34 rfl ?_
        refine g_istore_n hX [(3, .int 1), (2, .int 0), (0, .ref (ad 0)), (1, .int (nI j))] rfl dX8_parent_35 rfl (by decide) ?_
        have lp_36 : ∀ (n9 : Nat) (k : Nat) (b : Nat), j - k < n9 → (1 ≤ k ∧ k ≤ j) → (b = parM (up2 M 0 15 0) j (k - 1) ∧ b < k) → GG X D ad (mL S) (pf dT mK mN (up2 M 0 15 0) (mR S) ad) [(3, .int (nI k)), (2, .int (nI b)), (0, .ref (ad 0)), (1, .int (nI j))] (0) (0) 36 [] := by
          intro n9
          induction n9 with
          | zero => intro k b h9; exact absurd h9 (Nat.not_lt_zero _)
          | succ n9 ih9 =>
            intro k b h9 hk hb
            have ih_36 := ih9
            refine g_iload_n hX 0 rfl dX8_parent_36 rfl ?_
            refine g_iload_n hX 3 rfl dX8_parent_37 rfl ?_
            refine g_icmp_ge (tgt := 68) hX dX8_parent_38 (by decide) (fun c_38 => ?_) (fun c_38 => ?_)
            · have c_38 : j ≤ k := (nI_leI (a := j) (b := k) (by omega) (by omega)).mp c_38
              refine g_iload_n hX 1 rfl dX8_parent_68 rfl ?_
              refine b_iret hX hE dX8_parent_69 (by omega) (by omega) ?_
              exact ⟨congrArg (fun z => (ad, mL S, mf dT ad z S)) (by simp [paC, c_10, c_15]), by rw [show paC S (nI j) = 0 by simp [paC, c_10, c_15], if_pos rfl, nI_clamp (n := j) (by have := hS.1; omega), hb.1, show k = j by omega]⟩
            · have c_38 : ¬ j ≤ k := fun h9 => c_38 ((nI_leI (a := j) (b := k) (by omega) (by omega)).mpr h9)
              refine g_aload_n hX 2 rfl dX8_parent_41 rfl ?_
              refine g_iload_n hX 3 rfl dX8_parent_42 rfl ?_
              refine g_iload_n hX 0 rfl dX8_parent_43 rfl ?_
              refine b_callI_V hX hM (b := 0) [.int (nI j), .int (nI k)] (m_lo (by decide)) (pf_obj rfl (by decide)) rfl (k_X8_apart (up2 M 0 15 0) S hS hw1 hw2 hw3 j k hj (by omega)) gX8_parent_X8_apart rfl rfl rfl hd_X8_apart ⟨Nat.le_of_ble_eq_true rfl, Nat.le_of_ble_eq_true rfl⟩ ⟨Nat.le_of_ble_eq_true rfl, Nat.le_of_ble_eq_true rfl⟩ rfl (Nat.le_of_ble_eq_true rfl) dX8_parent_44 (fun r9 ad9 L9 f9 hp9 => ?_)
              obtain ⟨he9, hr9⟩ := hp9
              cases he9
              subst hr9
              refine g_aload_n hX 2 rfl dX8_parent_47 rfl ?_
              refine g_iload_n hX 3 rfl dX8_parent_48 rfl ?_
              refine g_iload_n hX 1 rfl dX8_parent_49 rfl ?_
              refine b_callI_V hX hM (b := 0) [.int (nI j), .int (nI b)] (m_lo (by decide)) (pf_obj rfl (by decide)) rfl (k_X8_apart (up2 M 0 15 0) S hS hw1 hw2 hw3 j b hj (by omega)) gX8_parent_X8_apart rfl rfl rfl hd_X8_apart ⟨Nat.le_of_ble_eq_true rfl, Nat.le_of_ble_eq_true rfl⟩ ⟨Nat.le_of_ble_eq_true rfl, Nat.le_of_ble_eq_true rfl⟩ rfl (Nat.le_of_ble_eq_true rfl) dX8_parent_50 (fun r9 ad9 L9 f9 hp9 => ?_)
              obtain ⟨he9, hr9⟩ := hp9
              cases he9
              subst hr9
              refine g_icmp_ge (tgt := 60) hX dX8_parent_53 (by decide) (fun c_53 => ?_) (fun c_53 => ?_)
              · have c_53 := c_53
                refine g_iload_n hX 1 rfl dX8_parent_60 rfl ?_
                refine g_istore_n hX [(2, .int (nI b)), (3, .int (nI k)), (0, .ref (ad 0)), (1, .int (nI j))] rfl dX8_parent_61 rfl (by decide) ?_
                refine g_iinc hX (nI (k + 1)) [(3, .int (nI (k + 1))), (2, .int (nI b)), (0, .ref (ad 0)), (1, .int (nI j))] (k := 1) rfl (g_inc k) rfl dX8_parent_62 (by decide) ?_
                refine g_goto (tgt := 36) hX dX8_parent_65 (by decide) ?_
                refine g_lv [0, 1, 2, 3] rfl ?_
                exact ih_36 (k + 1) b (by omega) (by omega) (pa_up hk.1 hb (Or.inl ⟨c_53, rfl⟩))
              · have c_53 := c_53
                refine g_iload_n hX 0 rfl dX8_parent_56 rfl ?_
                refine g_goto (tgt := 61) hX dX8_parent_57 (by decide) ?_
                refine g_istore_n hX [(2, .int (nI k)), (3, .int (nI k)), (0, .ref (ad 0)), (1, .int (nI j))] rfl dX8_parent_61 rfl (by decide) ?_
                refine g_iinc hX (nI (k + 1)) [(3, .int (nI (k + 1))), (2, .int (nI k)), (0, .ref (ad 0)), (1, .int (nI j))] (k := 1) rfl (g_inc k) rfl dX8_parent_62 (by decide) ?_
                refine g_goto (tgt := 36) hX dX8_parent_65 (by decide) ?_
                refine g_lv [0, 1, 2, 3] rfl ?_
                exact ih_36 (k + 1) k (by omega) (by omega) (pa_up hk.1 hb (Or.inr ⟨c_53, rfl⟩))
        refine g_lv [0, 1, 2, 3] rfl ?_
        exact lp_36 _ 1 0 (Nat.lt_succ_self _) (⟨Nat.le_refl 1, hj0⟩) (⟨rfl, Nat.zero_lt_one⟩)
      · first | exact absurd c_27 (by decide) | exact absurd (by decide) c_27
abbrev rm_X8_valve : Room := { frames := 2, cells := 0, slots := 0, locals := 42 }
theorem hd_X8_valve : yX8_valve.cls = RX8 ∧ yX8_valve.cls ≠ "java/lang/invoke/MethodHandle" ∧ yX8_valve.cls ≠ "java/lang/invoke/VarHandle" ∧ (parseMethodDescriptor yX8_valve.desc).map (fun d => d.parameters.length) = some 3 := by decide +kernel
set_option maxRecDepth 100000 in
set_option maxHeartbeats 4000000 in
theorem k_X8_valve {D : va_G} {dT : Nat → ClassId} {Z : ZT} {ad : Nat → Nat} (M : Nat → Nat → Int32) (S : SZ) (hS : WS S) (hw1 : M 1 2 = nI S.1) (hw2 : M 2 2 = nI S.2.1) (hw3 : M 3 2 = nI S.2.2.1) (n d q : Int32) : ∀ l8, BI l8 yX8_valve wsX8_valve rm_X8_valve D (tyl dT) Z ad (mL S) (pf dT mK mN M (mR S) ad) [.ref (ad 0), .int n, .int d, .int q] 0 0 (fun r u => u = (ad, mL S, mf dT ad (if vaC n d q = 0 then up2 (up2 (up2 M 0 15 0) (20 + n.toNatClampNeg) 0 d) (20 + n.toNatClampNeg) 1 q else up2 M 0 15 (vaC n d q)) S) ∧ (if vaC n d q = 0 then M (20 + n.toNatClampNeg) 0 else 0) = r) := by
  intro l9
  refine bi_of (own := RX8) (cc := cX8_valve) (maxL := 5) (some .int) [(0, .ref (ad 0)), (1, .int n), (2, .int d), (3, .int q)] (by decide) rfl rfl rfl (Nat.le_of_ble_eq_true rfl) ?_
  intro X hX hE hN hM
  have q_w1 : Cond.fieldLink RX8 24 "PerforatumModel" "valves" "[LPerforatumModel$Valve;" ∈ wsX8_valve := List.mem_of_getElem? (i := 1) rfl
  have q_inX8 : ∀ w ∈ wsX80, w ∈ wsX8_valve := by decide +kernel
  have q_w2 : Cond.fieldLink RX8 136 "PerforatumModel$Valve" "delay" "I" ∈ wsX8_valve := List.mem_of_getElem? (i := 2) rfl
  have q_inX7 : ∀ w ∈ wsX70, w ∈ wsX8_valve := by decide +kernel
  have q_w3 : Cond.fieldLink RX8 139 "PerforatumModel$Valve" "rest" "I" ∈ wsX8_valve := List.mem_of_getElem? (i := 3) rfl
  have hS1 := hS.1
  have hS2 := hS.2.1
  have hS3 := hS.2.2.1
  refine g_aload_n hX 0 rfl dX8_valve_0 rfl ?_
  refine g_iload_n hX 1 rfl dX8_valve_1 rfl ?_
  refine b_callI_S hX hM [.int n] (k_X8_isNote n) gX8_valve_X8_isNote rfl rfl rfl hd_X8_isNote.2 ⟨Nat.le_of_ble_eq_true rfl, Nat.le_of_ble_eq_true rfl⟩ ⟨Nat.le_of_ble_eq_true rfl, Nat.le_of_ble_eq_true rfl⟩ rfl (Nat.le_of_ble_eq_true rfl) dX8_valve_2 (fun r9 ad9 L9 f9 hp9 => ?_)
  obtain ⟨he9, hr9⟩ := hp9
  cases he9
  subst hr9
  refine g_iconst hX (1) dX8_valve_5 rfl ?_
  refine b_callI_V hX hM (b := 0) [.int (isi n 0 11), .int 1] (m_lo (by decide)) (pf_obj rfl (by decide)) rfl (k_X8_no (m_lo (by decide)) rfl (isi n 0 11) 1) gX8_valve_X8_no rfl rfl rfl hd_X8_no ⟨Nat.le_of_ble_eq_true rfl, Nat.le_of_ble_eq_true rfl⟩ ⟨Nat.le_of_ble_eq_true rfl, Nat.le_of_ble_eq_true rfl⟩ rfl (Nat.le_of_ble_eq_true rfl) dX8_valve_6 (fun r9 ad9 L9 f9 hp9 => ?_)
  obtain ⟨he9, hr9⟩ := hp9
  cases he9
  subst hr9
  refine g_if_ne (tgt := 44) hX dX8_valve_9 (by decide) (fun c_9 => ?_) (fun c_9 => ?_)
  · have c_9 := z11 c_9
    refine g_iconst hX (0) dX8_valve_44 rfl ?_
    refine b_iret hX hE dX8_valve_45 (by omega) (by omega) ?_
    exact ⟨congrArg (fun z => (ad, mL S, mf dT ad z S)) (by simp [up2_ss, vaC, c_9]), by simp [vaC, c_9]⟩
  · have c_9 := z10 c_9
    refine g_aload_n hX 0 rfl dX8_valve_12 rfl ?_
    refine g_iload_n hX 2 rfl dX8_valve_13 rfl ?_
    refine g_iconst hX (0) dX8_valve_14 rfl ?_
    refine g_iconst hX (5) dX8_valve_15 rfl ?_
    refine b_callI_S hX hM [.int d, .int 0, .int 5] (k_X8_isIn d 0 5) gX8_valve_X8_isIn rfl rfl rfl hd_X8_isIn.2 ⟨Nat.le_of_ble_eq_true rfl, Nat.le_of_ble_eq_true rfl⟩ ⟨Nat.le_of_ble_eq_true rfl, Nat.le_of_ble_eq_true rfl⟩ rfl (Nat.le_of_ble_eq_true rfl) dX8_valve_16 (fun r9 ad9 L9 f9 hp9 => ?_)
    obtain ⟨he9, hr9⟩ := hp9
    cases he9
    subst hr9
    refine g_if_eq (tgt := 36) hX dX8_valve_19 (by decide) (fun c_19 => ?_) (fun c_19 => ?_)
    · refine g_iconst hX (0) dX8_valve_36 rfl ?_
      refine g_iconst hX (2) dX8_valve_37 rfl ?_
      refine b_callI_V hX hM (b := 0) [.int 0, .int 2] (m_lo (by decide)) (pf_obj rfl (by decide)) rfl (k_X8_no (m_lo (by decide)) rfl 0 2) gX8_valve_X8_no rfl rfl rfl hd_X8_no ⟨Nat.le_of_ble_eq_true rfl, Nat.le_of_ble_eq_true rfl⟩ ⟨Nat.le_of_ble_eq_true rfl, Nat.le_of_ble_eq_true rfl⟩ rfl (Nat.le_of_ble_eq_true rfl) dX8_valve_38 (fun r9 ad9 L9 f9 hp9 => ?_)
      obtain ⟨he9, hr9⟩ := hp9
      cases he9
      subst hr9
      rw [show (if (0 : Int32) = 0 then (2 : Int32) else 0) = 2 from by decide]
      refine g_eqi (y := 1) (by decide) ?_
      refine g_if_eq (tgt := 46) hX dX8_valve_41 (by decide) (fun c_41 => ?_) (fun c_41 => ?_)
      · first | exact absurd c_41 (by decide) | exact absurd (by decide) c_41
      · refine g_iconst hX (0) dX8_valve_44 rfl ?_
        refine b_iret hX hE dX8_valve_45 (by omega) (by omega) ?_
        exact ⟨congrArg (fun z => (ad, mL S, mf dT ad z S)) (by simp [up2_ss, vaC, c_9, c_19]), by simp [vaC, c_9, c_19]⟩
    · refine g_iload_n hX 3 rfl dX8_valve_22 rfl ?_
      refine g_iconst hX (0) dX8_valve_23 rfl ?_
      refine g_bipush hX (9) dX8_valve_24 rfl ?_
      refine b_callI_S hX hM [.int q, .int 0, .int 9] (k_X8_isIn q 0 9) gX8_valve_X8_isIn rfl rfl rfl hd_X8_isIn.2 ⟨Nat.le_of_ble_eq_true rfl, Nat.le_of_ble_eq_true rfl⟩ ⟨Nat.le_of_ble_eq_true rfl, Nat.le_of_ble_eq_true rfl⟩ rfl (Nat.le_of_ble_eq_true rfl) dX8_valve_26 (fun r9 ad9 L9 f9 hp9 => ?_)
      obtain ⟨he9, hr9⟩ := hp9
      cases he9
      subst hr9
      refine g_if_eq (tgt := 36) hX dX8_valve_29 (by decide) (fun c_29 => ?_) (fun c_29 => ?_)
      · refine g_iconst hX (0) dX8_valve_36 rfl ?_
        refine g_iconst hX (2) dX8_valve_37 rfl ?_
        refine b_callI_V hX hM (b := 0) [.int 0, .int 2] (m_lo (by decide)) (pf_obj rfl (by decide)) rfl (k_X8_no (m_lo (by decide)) rfl 0 2) gX8_valve_X8_no rfl rfl rfl hd_X8_no ⟨Nat.le_of_ble_eq_true rfl, Nat.le_of_ble_eq_true rfl⟩ ⟨Nat.le_of_ble_eq_true rfl, Nat.le_of_ble_eq_true rfl⟩ rfl (Nat.le_of_ble_eq_true rfl) dX8_valve_38 (fun r9 ad9 L9 f9 hp9 => ?_)
        obtain ⟨he9, hr9⟩ := hp9
        cases he9
        subst hr9
        rw [show (if (0 : Int32) = 0 then (2 : Int32) else 0) = 2 from by decide]
        refine g_eqi (y := 1) (by decide) ?_
        refine g_if_eq (tgt := 46) hX dX8_valve_41 (by decide) (fun c_41 => ?_) (fun c_41 => ?_)
        · first | exact absurd c_41 (by decide) | exact absurd (by decide) c_41
        · refine g_iconst hX (0) dX8_valve_44 rfl ?_
          refine b_iret hX hE dX8_valve_45 (by omega) (by omega) ?_
          exact ⟨congrArg (fun z => (ad, mL S, mf dT ad z S)) (by simp [up2_ss, vaC, c_9, c_19, c_29]), by simp [vaC, c_9, c_19, c_29]⟩
      · refine g_iconst hX (1) dX8_valve_32 rfl ?_
        refine g_goto (tgt := 37) hX dX8_valve_33 (by decide) ?_
        refine g_iconst hX (2) dX8_valve_37 rfl ?_
        refine b_callI_V hX hM (b := 0) [.int 1, .int 2] (m_lo (by decide)) (pf_obj rfl (by decide)) rfl (k_X8_no (m_lo (by decide)) rfl 1 2) gX8_valve_X8_no rfl rfl rfl hd_X8_no ⟨Nat.le_of_ble_eq_true rfl, Nat.le_of_ble_eq_true rfl⟩ ⟨Nat.le_of_ble_eq_true rfl, Nat.le_of_ble_eq_true rfl⟩ rfl (Nat.le_of_ble_eq_true rfl) dX8_valve_38 (fun r9 ad9 L9 f9 hp9 => ?_)
        obtain ⟨he9, hr9⟩ := hp9
        cases he9
        subst hr9
        rw [show (if (1 : Int32) = 0 then (2 : Int32) else 0) = 0 from by decide]
        refine g_eqi (y := 0) (by decide) ?_
        refine g_if_eq (tgt := 46) hX dX8_valve_41 (by decide) (fun c_41 => ?_) (fun c_41 => ?_)
        · rw [show (up2 (up2 M 0 15 (if (isi n 0 11) = 0 then 1 else 0)) 0 15 0) = up2 M 0 15 0 from by simp [up2_ss, c_9]]
          obtain ⟨i, hi, rfl⟩ := isi_k (n := 11) c_9 (by decide) (by decide)
          refine g_aload_n hX 0 rfl dX8_valve_46 rfl ?_
          refine g_getRs (i := 0) hX 12 3 q_inX8 (m_lo (by decide)) rfl (by decide) rfl (by decide) rfl q_w1 rfl (j := 4) rfl dX8_valve_47 ?_
          refine g_iload_n hX 1 rfl dX8_valve_50 rfl ?_
          refine h_aald24 (i := 4) hX i rfl (by show _ < (12 : Nat); omega) (by decide) (j := (20 + i)) (mR_v (by omega)) (m_lo (by decide)) rfl dX8_valve_51 ?_
          refine g_getI (i := (20 + i)) hX 11 0 q_inX7 (m_v (by omega)) (mK_v (by omega)) (by decide) rfl (by decide) rfl q_w2 rfl dX8_valve_52 ?_
          refine g_eqi (y := (M (20 + i) 0)) (up2_n (Or.inl (by omega))) ?_
          refine g_istore hX [(4, .int (M (20 + i) 0)), (0, .ref (ad 0)), (1, .int (nI i)), (2, .int d), (3, .int q)] rfl dX8_valve_55 (by decide) ?_
          refine g_aload_n hX 1 rfl dX8_valve_57 rfl ?_
          refine g_getRs (i := 0) hX 12 3 q_inX8 (m_lo (by decide)) rfl (by decide) rfl (by decide) rfl q_w1 rfl (j := 4) rfl dX8_valve_58 ?_
          refine g_iload_n hX 2 rfl dX8_valve_61 rfl ?_
          refine h_aald24 (i := 4) hX i rfl (by show _ < (12 : Nat); omega) (by decide) (j := (20 + i)) (mR_v (by omega)) (m_lo (by decide)) rfl dX8_valve_62 ?_
          refine g_iload_n hX 3 rfl dX8_valve_63 rfl ?_
          refine g_putI hX (i := (20 + i)) 11 0 q_inX7 (m_v (by omega)) (mK_v (by omega)) (by decide) rfl (by decide) rfl q_w2 rfl tyX7_ok nmX7 rfl (ty := .int) (by decide +kernel) rfl rfl dX8_valve_64 ?_
          refine g_aload_n hX 1 rfl dX8_valve_67 rfl ?_
          refine g_getRs (i := 0) hX 12 3 q_inX8 (m_lo (by decide)) rfl (by decide) rfl (by decide) rfl q_w1 rfl (j := 4) rfl dX8_valve_68 ?_
          refine g_iload_n hX 2 rfl dX8_valve_71 rfl ?_
          refine h_aald24 (i := 4) hX i rfl (by show _ < (12 : Nat); omega) (by decide) (j := (20 + i)) (mR_v (by omega)) (m_lo (by decide)) rfl dX8_valve_72 ?_
          refine g_iload_n hX 4 rfl dX8_valve_73 rfl ?_
          refine g_putI hX (i := (20 + i)) 11 1 q_inX7 (m_v (by omega)) (mK_v (by omega)) (by decide) rfl (by decide) rfl q_w3 rfl tyX7_ok nmX7 rfl (ty := .int) (by decide +kernel) rfl rfl dX8_valve_74 ?_
          refine g_iload hX 0 rfl dX8_valve_77 ?_
          refine b_iret hX hE dX8_valve_79 (by omega) (by omega) ?_
          exact ⟨congrArg (fun z => (ad, mL S, mf dT ad z S)) (by simp [up2_ss, vaC, c_9, c_19, c_29, nI_clamp (n := i) (by omega)]), by simp [vaC, c_9, c_19, c_29, nI_clamp (n := i) (by omega)]⟩
        · first | exact absurd c_41 (by decide) | exact absurd (by decide) c_41
abbrev rm_X8_use : Room := { frames := 2, cells := 0, slots := 0, locals := 42 }
theorem hd_X8_use : yX8_use.cls = RX8 ∧ yX8_use.cls ≠ "java/lang/invoke/MethodHandle" ∧ yX8_use.cls ≠ "java/lang/invoke/VarHandle" ∧ (parseMethodDescriptor yX8_use.desc).map (fun d => d.parameters.length) = some 2 := by decide +kernel
set_option maxRecDepth 100000 in
set_option maxHeartbeats 4000000 in
theorem k_X8_use {D : va_G} {dT : Nat → ClassId} {Z : ZT} {ad : Nat → Nat} (M : Nat → Nat → Int32) (S : SZ) (hS : WS S) (hw1 : M 1 2 = nI S.1) (hw2 : M 2 2 = nI S.2.1) (hw3 : M 3 2 = nI S.2.2.1) (n q : Int32) : ∀ l8, BI l8 yX8_use wsX8_use rm_X8_use D (tyl dT) Z ad (mL S) (pf dT mK mN M (mR S) ad) [.ref (ad 0), .int n, .int q] 0 0 (fun r u => u = (ad, mL S, mf dT ad (if usC n q = 0 then up2 (up2 M 0 15 0) (20 + n.toNatClampNeg) 2 q else up2 M 0 15 (usC n q)) S) ∧ (if usC n q = 0 then M (20 + n.toNatClampNeg) 2 else 0) = r) := by
  intro l9
  refine bi_of (own := RX8) (cc := cX8_use) (maxL := 4) (some .int) [(0, .ref (ad 0)), (1, .int n), (2, .int q)] (by decide) rfl rfl rfl (Nat.le_of_ble_eq_true rfl) ?_
  intro X hX hE hN hM
  have q_w1 : Cond.fieldLink RX8 24 "PerforatumModel" "valves" "[LPerforatumModel$Valve;" ∈ wsX8_use := List.mem_of_getElem? (i := 1) rfl
  have q_inX8 : ∀ w ∈ wsX80, w ∈ wsX8_use := by decide +kernel
  have q_w2 : Cond.fieldLink RX8 142 "PerforatumModel$Valve" "use" "I" ∈ wsX8_use := List.mem_of_getElem? (i := 2) rfl
  have q_inX7 : ∀ w ∈ wsX70, w ∈ wsX8_use := by decide +kernel
  have hS1 := hS.1
  have hS2 := hS.2.1
  have hS3 := hS.2.2.1
  refine g_aload_n hX 0 rfl dX8_use_0 rfl ?_
  refine g_iload_n hX 1 rfl dX8_use_1 rfl ?_
  refine b_callI_S hX hM [.int n] (k_X8_isNote n) gX8_use_X8_isNote rfl rfl rfl hd_X8_isNote.2 ⟨Nat.le_of_ble_eq_true rfl, Nat.le_of_ble_eq_true rfl⟩ ⟨Nat.le_of_ble_eq_true rfl, Nat.le_of_ble_eq_true rfl⟩ rfl (Nat.le_of_ble_eq_true rfl) dX8_use_2 (fun r9 ad9 L9 f9 hp9 => ?_)
  obtain ⟨he9, hr9⟩ := hp9
  cases he9
  subst hr9
  refine g_iconst hX (1) dX8_use_5 rfl ?_
  refine b_callI_V hX hM (b := 0) [.int (isi n 0 11), .int 1] (m_lo (by decide)) (pf_obj rfl (by decide)) rfl (k_X8_no (m_lo (by decide)) rfl (isi n 0 11) 1) gX8_use_X8_no rfl rfl rfl hd_X8_no ⟨Nat.le_of_ble_eq_true rfl, Nat.le_of_ble_eq_true rfl⟩ ⟨Nat.le_of_ble_eq_true rfl, Nat.le_of_ble_eq_true rfl⟩ rfl (Nat.le_of_ble_eq_true rfl) dX8_use_6 (fun r9 ad9 L9 f9 hp9 => ?_)
  obtain ⟨he9, hr9⟩ := hp9
  cases he9
  subst hr9
  refine g_if_ne (tgt := 27) hX dX8_use_9 (by decide) (fun c_9 => ?_) (fun c_9 => ?_)
  · have c_9 := z11 c_9
    refine g_iconst hX (0) dX8_use_27 rfl ?_
    refine b_iret hX hE dX8_use_28 (by omega) (by omega) ?_
    exact ⟨congrArg (fun z => (ad, mL S, mf dT ad z S)) (by simp [up2_ss, usC, c_9]), by simp [usC, c_9]⟩
  · have c_9 := z10 c_9
    refine g_aload_n hX 0 rfl dX8_use_12 rfl ?_
    refine g_iload_n hX 2 rfl dX8_use_13 rfl ?_
    refine g_iconst hX (0) dX8_use_14 rfl ?_
    refine g_bipush hX (99) dX8_use_15 rfl ?_
    refine b_callI_S hX hM [.int q, .int 0, .int 99] (k_X8_isIn q 0 99) gX8_use_X8_isIn rfl rfl rfl hd_X8_isIn.2 ⟨Nat.le_of_ble_eq_true rfl, Nat.le_of_ble_eq_true rfl⟩ ⟨Nat.le_of_ble_eq_true rfl, Nat.le_of_ble_eq_true rfl⟩ rfl (Nat.le_of_ble_eq_true rfl) dX8_use_17 (fun r9 ad9 L9 f9 hp9 => ?_)
    obtain ⟨he9, hr9⟩ := hp9
    cases he9
    subst hr9
    refine g_iconst hX (2) dX8_use_20 rfl ?_
    refine b_callI_V hX hM (b := 0) [.int (isi q 0 99), .int 2] (m_lo (by decide)) (pf_obj rfl (by decide)) rfl (k_X8_no (m_lo (by decide)) rfl (isi q 0 99) 2) gX8_use_X8_no rfl rfl rfl hd_X8_no ⟨Nat.le_of_ble_eq_true rfl, Nat.le_of_ble_eq_true rfl⟩ ⟨Nat.le_of_ble_eq_true rfl, Nat.le_of_ble_eq_true rfl⟩ rfl (Nat.le_of_ble_eq_true rfl) dX8_use_21 (fun r9 ad9 L9 f9 hp9 => ?_)
    obtain ⟨he9, hr9⟩ := hp9
    cases he9
    subst hr9
    refine g_if_eq (tgt := 29) hX dX8_use_24 (by decide) (fun c_24 => ?_) (fun c_24 => ?_)
    · have c_24 := z10 c_24
      rw [show (up2 (up2 M 0 15 (if (isi n 0 11) = 0 then 1 else 0)) 0 15 (if (isi q 0 99) = 0 then 2 else 0)) = up2 M 0 15 0 from by simp [up2_ss, c_9, c_24]]
      obtain ⟨i, hi, rfl⟩ := isi_k (n := 11) c_9 (by decide) (by decide)
      refine g_aload_n hX 0 rfl dX8_use_29 rfl ?_
      refine g_getRs (i := 0) hX 12 3 q_inX8 (m_lo (by decide)) rfl (by decide) rfl (by decide) rfl q_w1 rfl (j := 4) rfl dX8_use_30 ?_
      refine g_iload_n hX 1 rfl dX8_use_33 rfl ?_
      refine h_aald24 (i := 4) hX i rfl (by show _ < (12 : Nat); omega) (by decide) (j := (20 + i)) (mR_v (by omega)) (m_lo (by decide)) rfl dX8_use_34 ?_
      refine g_getI (i := (20 + i)) hX 11 2 q_inX7 (m_v (by omega)) (mK_v (by omega)) (by decide) rfl (by decide) rfl q_w2 rfl dX8_use_35 ?_
      refine g_eqi (y := (M (20 + i) 2)) (up2_n (Or.inl (by omega))) ?_
      refine g_istore_n hX [(3, .int (M (20 + i) 2)), (0, .ref (ad 0)), (1, .int (nI i)), (2, .int q)] rfl dX8_use_38 rfl (by decide) ?_
      refine g_aload_n hX 1 rfl dX8_use_39 rfl ?_
      refine g_getRs (i := 0) hX 12 3 q_inX8 (m_lo (by decide)) rfl (by decide) rfl (by decide) rfl q_w1 rfl (j := 4) rfl dX8_use_40 ?_
      refine g_iload_n hX 2 rfl dX8_use_43 rfl ?_
      refine h_aald24 (i := 4) hX i rfl (by show _ < (12 : Nat); omega) (by decide) (j := (20 + i)) (mR_v (by omega)) (m_lo (by decide)) rfl dX8_use_44 ?_
      refine g_iload_n hX 3 rfl dX8_use_45 rfl ?_
      refine g_putI hX (i := (20 + i)) 11 2 q_inX7 (m_v (by omega)) (mK_v (by omega)) (by decide) rfl (by decide) rfl q_w2 rfl tyX7_ok nmX7 rfl (ty := .int) (by decide +kernel) rfl rfl dX8_use_46 ?_
      refine g_iload_n hX 0 rfl dX8_use_49 rfl ?_
      refine b_iret hX hE dX8_use_50 (by omega) (by omega) ?_
      exact ⟨congrArg (fun z => (ad, mL S, mf dT ad z S)) (by simp [up2_ss, usC, c_9, c_24, nI_clamp (n := i) (by omega)]), by simp [usC, c_9, c_24, nI_clamp (n := i) (by omega)]⟩
    · have c_24 := z11 c_24
      refine g_iconst hX (0) dX8_use_27 rfl ?_
      refine b_iret hX hE dX8_use_28 (by omega) (by omega) ?_
      exact ⟨congrArg (fun z => (ad, mL S, mf dT ad z S)) (by simp [up2_ss, usC, c_9, c_24]), by simp [usC, c_9, c_24]⟩
abbrev rm_X8_maker : Room := { frames := 1, cells := 0, slots := 0, locals := 22 }
theorem hd_X8_maker : yX8_maker.cls = RX8 ∧ yX8_maker.cls ≠ "java/lang/invoke/MethodHandle" ∧ yX8_maker.cls ≠ "java/lang/invoke/VarHandle" ∧ (parseMethodDescriptor yX8_maker.desc).map (fun d => d.parameters.length) = some 1 := by decide +kernel
set_option maxRecDepth 100000 in
set_option maxHeartbeats 4000000 in
theorem k_X8_maker {D : va_G} {dT : Nat → ClassId} {Z : ZT} {ad : Nat → Nat} (M : Nat → Nat → Int32) (S : SZ) (hS : WS S) (hw1 : M 1 2 = nI S.1) (hw2 : M 2 2 = nI S.2.1) (hw3 : M 3 2 = nI S.2.2.1) (hmk : M 0 17 = 97 ∨ M 0 17 = 98 ∨ M 0 17 = 99) (w : Int32) : ∀ l8, BI l8 yX8_maker wsX8_maker rm_X8_maker D (tyl dT) Z ad (mL S) (pf dT mK mN M (mR S) ad) [.ref (ad 0), .int w] 0 0 (fun r u => u = (ad, mL S, mf dT ad (if mkC w = 0 then up2 (up2 M 0 15 0) 0 17 w else up2 M 0 15 (mkC w)) S) ∧ (if mkC w = 0 then M 0 17 else 45) = r) := by
  intro l9
  refine bi_of (own := RX8) (cc := cX8_maker) (maxL := 3) (some .char) [(0, .ref (ad 0)), (1, .int w)] (by decide) rfl rfl rfl (Nat.le_of_ble_eq_true rfl) ?_
  intro X hX hE hN hM
  have q_w1 : Cond.fieldLink RX8 43 "PerforatumModel" "maker" "C" ∈ wsX8_maker := List.mem_of_getElem? (i := 1) rfl
  have q_inX8 : ∀ w ∈ wsX80, w ∈ wsX8_maker := by decide +kernel
  have hS1 := hS.1
  have hS2 := hS.2.1
  have hS3 := hS.2.2.1
  refine g_aload_n hX 0 rfl dX8_maker_0 rfl ?_
  refine g_iload_n hX 1 rfl dX8_maker_1 rfl ?_
  refine g_bipush hX (97) dX8_maker_2 rfl ?_
  refine g_bipush hX (99) dX8_maker_4 rfl ?_
  refine b_callI_S hX hM [.int w, .int 97, .int 99] (k_X8_isIn w 97 99) gX8_maker_X8_isIn rfl rfl rfl hd_X8_isIn.2 ⟨Nat.le_of_ble_eq_true rfl, Nat.le_of_ble_eq_true rfl⟩ ⟨Nat.le_of_ble_eq_true rfl, Nat.le_of_ble_eq_true rfl⟩ rfl (Nat.le_of_ble_eq_true rfl) dX8_maker_6 (fun r9 ad9 L9 f9 hp9 => ?_)
  obtain ⟨he9, hr9⟩ := hp9
  cases he9
  subst hr9
  refine g_iconst hX (1) dX8_maker_9 rfl ?_
  refine b_callI_V hX hM (b := 0) [.int (isi w 97 99), .int 1] (m_lo (by decide)) (pf_obj rfl (by decide)) rfl (k_X8_no (m_lo (by decide)) rfl (isi w 97 99) 1) gX8_maker_X8_no rfl rfl rfl hd_X8_no ⟨Nat.le_of_ble_eq_true rfl, Nat.le_of_ble_eq_true rfl⟩ ⟨Nat.le_of_ble_eq_true rfl, Nat.le_of_ble_eq_true rfl⟩ rfl (Nat.le_of_ble_eq_true rfl) dX8_maker_10 (fun r9 ad9 L9 f9 hp9 => ?_)
  obtain ⟨he9, hr9⟩ := hp9
  cases he9
  subst hr9
  refine g_if_eq (tgt := 19) hX dX8_maker_13 (by decide) (fun c_13 => ?_) (fun c_13 => ?_)
  · have c_13 := z10 c_13
    rw [show (up2 M 0 15 (if (isi w 97 99) = 0 then 1 else 0)) = up2 M 0 15 0 from by simp [up2_ss, c_13]]
    refine g_aload_n hX 0 rfl dX8_maker_19 rfl ?_
    refine g_getI (i := 0) hX 12 17 q_inX8 (m_lo (by decide)) rfl (by decide) rfl (by decide) rfl q_w1 rfl dX8_maker_20 ?_
    refine g_eqi (y := (M 0 17)) (up2_n (Or.inr (by decide))) ?_
    refine g_istore_n hX [(2, .int (M 0 17)), (0, .ref (ad 0)), (1, .int w)] rfl dX8_maker_23 rfl (by decide) ?_
    refine g_aload_n hX 1 rfl dX8_maker_24 rfl ?_
    refine g_iload_n hX 2 rfl dX8_maker_25 rfl ?_
    refine g_putI hX (i := 0) 12 17 q_inX8 (m_lo (by decide)) rfl (by decide) rfl (by decide) rfl q_w1 rfl tyX8_ok nmX8 rfl (ty := .char) (by decide +kernel) (nz3 (isi_3 c_13)) (fz3 (isi_3 c_13)) dX8_maker_26 ?_
    refine g_iload_n hX 0 rfl dX8_maker_29 rfl ?_
    refine b_zret hX (nz3 hmk) hE dX8_maker_30 (by omega) (by omega) ?_
    exact ⟨congrArg (fun z => (ad, mL S, mf dT ad z S)) (by simp [up2_ss, mkC, c_13]), by simp [mkC, c_13]⟩
  · have c_13 := z11 c_13
    refine g_bipush hX (45) dX8_maker_16 rfl ?_
    refine b_zret hX rfl hE dX8_maker_18 (by omega) (by omega) ?_
    exact ⟨congrArg (fun z => (ad, mL S, mf dT ad z S)) (by simp [up2_ss, mkC, c_13]), by simp [mkC, c_13]⟩
abbrev rm_X8_aside : Room := { frames := 2, cells := 0, slots := 0, locals := 42 }
theorem hd_X8_aside : yX8_aside.cls = RX8 ∧ yX8_aside.cls ≠ "java/lang/invoke/MethodHandle" ∧ yX8_aside.cls ≠ "java/lang/invoke/VarHandle" ∧ (parseMethodDescriptor yX8_aside.desc).map (fun d => d.parameters.length) = some 1 := by decide +kernel
set_option maxRecDepth 100000 in
set_option maxHeartbeats 4000000 in
theorem k_X8_aside {D : va_G} {dT : Nat → ClassId} {Z : ZT} {ad : Nat → Nat} (M : Nat → Nat → Int32) (S : SZ) (hS : WS S) (hw1 : M 1 2 = nI S.1) (hw2 : M 2 2 = nI S.2.1) (hw3 : M 3 2 = nI S.2.2.1) (t : Int32) : ∀ l8, BI l8 yX8_aside wsX8_aside rm_X8_aside D (tyl dT) Z ad (mL S) (pf dT mK mN M (mR S) ad) [.ref (ad 0), .int t] 0 0 (fun r u => u = (ad, mL S, mf dT ad (if asC M t = 0 then up2 (up2 M 0 15 0) 0 10 t else up2 M 0 15 (asC M t)) S) ∧ (if asC M t = 0 then M 0 10 else 0) = r) := by
  intro l9
  refine bi_of (own := RX8) (cc := cX8_aside) (maxL := 3) (some .int) [(0, .ref (ad 0)), (1, .int t)] (by decide) rfl rfl rfl (Nat.le_of_ble_eq_true rfl) ?_
  intro X hX hE hN hM
  have q_w1 : Cond.fieldLink RX8 167 "PerforatumModel" "aside" "I" ∈ wsX8_aside := List.mem_of_getElem? (i := 1) rfl
  have q_inX8 : ∀ w ∈ wsX80, w ∈ wsX8_aside := by decide +kernel
  have hS1 := hS.1
  have hS2 := hS.2.1
  have hS3 := hS.2.2.1
  refine g_aload_n hX 0 rfl dX8_aside_0 rfl ?_
  refine b_callI_V hX hM (b := 0) [] (m_lo (by decide)) (pf_obj rfl (by decide)) rfl (k_X8_noPlay (m_lo (by decide)) rfl) gX8_aside_X8_noPlay rfl rfl rfl hd_X8_noPlay ⟨Nat.le_of_ble_eq_true rfl, Nat.le_of_ble_eq_true rfl⟩ ⟨Nat.le_of_ble_eq_true rfl, Nat.le_of_ble_eq_true rfl⟩ rfl (Nat.le_of_ble_eq_true rfl) dX8_aside_1 (fun r9 ad9 L9 f9 hp9 => ?_)
  obtain ⟨he9, hr9⟩ := hp9
  cases he9
  subst hr9
  refine g_if_ne (tgt := 22) hX dX8_aside_4 (by decide) (fun c_4 => ?_) (fun c_4 => ?_)
  · have c_4 := z11 c_4
    refine g_iconst hX (0) dX8_aside_22 rfl ?_
    refine b_iret hX hE dX8_aside_23 (by omega) (by omega) ?_
    exact ⟨congrArg (fun z => (ad, mL S, mf dT ad z S)) (by simp [up2_ss, asC, c_4]), by simp [asC, c_4]⟩
  · have c_4 := z10 c_4
    refine g_aload_n hX 0 rfl dX8_aside_7 rfl ?_
    refine g_iload_n hX 1 rfl dX8_aside_8 rfl ?_
    refine g_bipush hX (-2) dX8_aside_9 rfl ?_
    refine g_iconst hX (2) dX8_aside_11 rfl ?_
    refine b_callI_S hX hM [.int t, .int (-2), .int 2] (k_X8_isIn t (-2) 2) gX8_aside_X8_isIn rfl rfl rfl hd_X8_isIn.2 ⟨Nat.le_of_ble_eq_true rfl, Nat.le_of_ble_eq_true rfl⟩ ⟨Nat.le_of_ble_eq_true rfl, Nat.le_of_ble_eq_true rfl⟩ rfl (Nat.le_of_ble_eq_true rfl) dX8_aside_12 (fun r9 ad9 L9 f9 hp9 => ?_)
    obtain ⟨he9, hr9⟩ := hp9
    cases he9
    subst hr9
    refine g_iconst hX (2) dX8_aside_15 rfl ?_
    refine b_callI_V hX hM (b := 0) [.int (isi t (-2) 2), .int 2] (m_lo (by decide)) (pf_obj rfl (by decide)) rfl (k_X8_no (m_lo (by decide)) rfl (isi t (-2) 2) 2) gX8_aside_X8_no rfl rfl rfl hd_X8_no ⟨Nat.le_of_ble_eq_true rfl, Nat.le_of_ble_eq_true rfl⟩ ⟨Nat.le_of_ble_eq_true rfl, Nat.le_of_ble_eq_true rfl⟩ rfl (Nat.le_of_ble_eq_true rfl) dX8_aside_16 (fun r9 ad9 L9 f9 hp9 => ?_)
    obtain ⟨he9, hr9⟩ := hp9
    cases he9
    subst hr9
    refine g_if_eq (tgt := 24) hX dX8_aside_19 (by decide) (fun c_19 => ?_) (fun c_19 => ?_)
    · have c_19 := z10 c_19
      rw [show (up2 (up2 M 0 15 (if M 0 6 < 0 then 1 else 0)) 0 15 (if (isi t (-2) 2) = 0 then 2 else 0)) = up2 M 0 15 0 from by simp [up2_ss, c_4, c_19]]
      refine g_aload_n hX 0 rfl dX8_aside_24 rfl ?_
      refine g_getI (i := 0) hX 12 10 q_inX8 (m_lo (by decide)) rfl (by decide) rfl (by decide) rfl q_w1 rfl dX8_aside_25 ?_
      refine g_eqi (y := (M 0 10)) (up2_n (Or.inr (by decide))) ?_
      refine g_istore_n hX [(2, .int (M 0 10)), (0, .ref (ad 0)), (1, .int t)] rfl dX8_aside_28 rfl (by decide) ?_
      refine g_aload_n hX 1 rfl dX8_aside_29 rfl ?_
      refine g_iload_n hX 2 rfl dX8_aside_30 rfl ?_
      refine g_putI hX (i := 0) 12 10 q_inX8 (m_lo (by decide)) rfl (by decide) rfl (by decide) rfl q_w1 rfl tyX8_ok nmX8 rfl (ty := .int) (by decide +kernel) rfl rfl dX8_aside_31 ?_
      refine g_iload_n hX 0 rfl dX8_aside_34 rfl ?_
      refine b_iret hX hE dX8_aside_35 (by omega) (by omega) ?_
      exact ⟨congrArg (fun z => (ad, mL S, mf dT ad z S)) (by simp [up2_ss, asC, c_4, c_19]), by simp [asC, c_4, c_19]⟩
    · have c_19 := z11 c_19
      refine g_iconst hX (0) dX8_aside_22 rfl ?_
      refine b_iret hX hE dX8_aside_23 (by omega) (by omega) ?_
      exact ⟨congrArg (fun z => (ad, mL S, mf dT ad z S)) (by simp [up2_ss, asC, c_4, c_19]), by simp [asC, c_4, c_19]⟩
abbrev rm_X8_isOpen : Room := { frames := 2, cells := 0, slots := 0, locals := 42 }
theorem hd_X8_isOpen : yX8_isOpen.cls = RX8 ∧ yX8_isOpen.cls ≠ "java/lang/invoke/MethodHandle" ∧ yX8_isOpen.cls ≠ "java/lang/invoke/VarHandle" ∧ (parseMethodDescriptor yX8_isOpen.desc).map (fun d => d.parameters.length) = some 1 := by decide +kernel
set_option maxRecDepth 100000 in
set_option maxHeartbeats 4000000 in
theorem k_X8_isOpen {D : va_G} {dT : Nat → ClassId} {Z : ZT} {ad : Nat → Nat} (M : Nat → Nat → Int32) (S : SZ) (hS : WS S) (hw1 : M 1 2 = nI S.1) (hw2 : M 2 2 = nI S.2.1) (hw3 : M 3 2 = nI S.2.2.1) (n : Int32) : ∀ l8, BI l8 yX8_isOpen wsX8_isOpen rm_X8_isOpen D (tyl dT) Z ad (mL S) (pf dT mK mN M (mR S) ad) [.ref (ad 0), .int n] 0 0 (fun r u => u = (ad, mL S, mf dT ad (up2 M 0 15 (opC M n)) S) ∧ (if opC M n = 0 then (if M (20 + n.toNatClampNeg) 9 = 0 then 0 else 1) else 0) = r) := by
  intro l9
  refine bi_of (own := RX8) (cc := cX8_isOpen) (maxL := 2) (some .boolean) [(0, .ref (ad 0)), (1, .int n)] (by decide) rfl rfl rfl (Nat.le_of_ble_eq_true rfl) ?_
  intro X hX hE hN hM
  have q_w1 : Cond.fieldLink RX8 24 "PerforatumModel" "valves" "[LPerforatumModel$Valve;" ∈ wsX8_isOpen := List.mem_of_getElem? (i := 1) rfl
  have q_inX8 : ∀ w ∈ wsX80, w ∈ wsX8_isOpen := by decide +kernel
  have q_w2 : Cond.fieldLink RX8 174 "PerforatumModel$Valve" "open" "Z" ∈ wsX8_isOpen := List.mem_of_getElem? (i := 2) rfl
  have q_inX7 : ∀ w ∈ wsX70, w ∈ wsX8_isOpen := by decide +kernel
  have hS1 := hS.1
  have hS2 := hS.2.1
  have hS3 := hS.2.2.1
  refine g_aload_n hX 0 rfl dX8_isOpen_0 rfl ?_
  refine b_callI_V hX hM (b := 0) [] (m_lo (by decide)) (pf_obj rfl (by decide)) rfl (k_X8_noPlay (m_lo (by decide)) rfl) gX8_isOpen_X8_noPlay rfl rfl rfl hd_X8_noPlay ⟨Nat.le_of_ble_eq_true rfl, Nat.le_of_ble_eq_true rfl⟩ ⟨Nat.le_of_ble_eq_true rfl, Nat.le_of_ble_eq_true rfl⟩ rfl (Nat.le_of_ble_eq_true rfl) dX8_isOpen_1 (fun r9 ad9 L9 f9 hp9 => ?_)
  obtain ⟨he9, hr9⟩ := hp9
  cases he9
  subst hr9
  refine g_if_ne (tgt := 35) hX dX8_isOpen_4 (by decide) (fun c_4 => ?_) (fun c_4 => ?_)
  · have c_4 := z11 c_4
    refine g_iconst hX (0) dX8_isOpen_35 rfl ?_
    refine b_zret hX rfl hE dX8_isOpen_36 (by omega) (by omega) ?_
    exact ⟨congrArg (fun z => (ad, mL S, mf dT ad z S)) (by simp [up2_ss, opC, c_4]), by simp [opC, c_4]⟩
  · have c_4 := z10 c_4
    refine g_aload_n hX 0 rfl dX8_isOpen_7 rfl ?_
    refine g_iload_n hX 1 rfl dX8_isOpen_8 rfl ?_
    refine b_callI_S hX hM [.int n] (k_X8_isNote n) gX8_isOpen_X8_isNote rfl rfl rfl hd_X8_isNote.2 ⟨Nat.le_of_ble_eq_true rfl, Nat.le_of_ble_eq_true rfl⟩ ⟨Nat.le_of_ble_eq_true rfl, Nat.le_of_ble_eq_true rfl⟩ rfl (Nat.le_of_ble_eq_true rfl) dX8_isOpen_9 (fun r9 ad9 L9 f9 hp9 => ?_)
    obtain ⟨he9, hr9⟩ := hp9
    cases he9
    subst hr9
    refine g_iconst hX (2) dX8_isOpen_12 rfl ?_
    refine b_callI_V hX hM (b := 0) [.int (isi n 0 11), .int 2] (m_lo (by decide)) (pf_obj rfl (by decide)) rfl (k_X8_no (m_lo (by decide)) rfl (isi n 0 11) 2) gX8_isOpen_X8_no rfl rfl rfl hd_X8_no ⟨Nat.le_of_ble_eq_true rfl, Nat.le_of_ble_eq_true rfl⟩ ⟨Nat.le_of_ble_eq_true rfl, Nat.le_of_ble_eq_true rfl⟩ rfl (Nat.le_of_ble_eq_true rfl) dX8_isOpen_13 (fun r9 ad9 L9 f9 hp9 => ?_)
    obtain ⟨he9, hr9⟩ := hp9
    cases he9
    subst hr9
    refine g_if_ne (tgt := 35) hX dX8_isOpen_16 (by decide) (fun c_16 => ?_) (fun c_16 => ?_)
    · have c_16 := z11 c_16
      refine g_iconst hX (0) dX8_isOpen_35 rfl ?_
      refine b_zret hX rfl hE dX8_isOpen_36 (by omega) (by omega) ?_
      exact ⟨congrArg (fun z => (ad, mL S, mf dT ad z S)) (by simp [up2_ss, opC, c_4, c_16]), by simp [opC, c_4, c_16]⟩
    · have c_16 := z10 c_16
      rw [show (up2 (up2 M 0 15 (if M 0 6 < 0 then 1 else 0)) 0 15 (if (isi n 0 11) = 0 then 2 else 0)) = up2 M 0 15 0 from by simp [up2_ss, c_4, c_16]]
      obtain ⟨i, hi, rfl⟩ := isi_k (n := 11) c_16 (by decide) (by decide)
      refine g_aload_n hX 0 rfl dX8_isOpen_19 rfl ?_
      refine g_getRs (i := 0) hX 12 3 q_inX8 (m_lo (by decide)) rfl (by decide) rfl (by decide) rfl q_w1 rfl (j := 4) rfl dX8_isOpen_20 ?_
      refine g_iload_n hX 1 rfl dX8_isOpen_23 rfl ?_
      refine h_aald24 (i := 4) hX i rfl (by show _ < (12 : Nat); omega) (by decide) (j := (20 + i)) (mR_v (by omega)) (m_lo (by decide)) rfl dX8_isOpen_24 ?_
      refine g_getI (i := (20 + i)) hX 11 9 q_inX7 (m_v (by omega)) (mK_v (by omega)) (by decide) rfl (by decide) rfl q_w2 rfl dX8_isOpen_25 ?_
      refine g_eqi (y := (M (20 + i) 9)) (up2_n (Or.inl (by omega))) ?_
      refine g_if_eq (tgt := 35) hX dX8_isOpen_28 (by decide) (fun c_28 => ?_) (fun c_28 => ?_)
      · refine g_iconst hX (0) dX8_isOpen_35 rfl ?_
        refine b_zret hX rfl hE dX8_isOpen_36 (by omega) (by omega) ?_
        exact ⟨congrArg (fun z => (ad, mL S, mf dT ad z S)) (by simp [up2_ss, opC, c_4, c_16]), by simp [opC, c_4, c_16, c_28, nI_clamp (n := i) (by omega)]⟩
      · refine g_iconst hX (1) dX8_isOpen_31 rfl ?_
        refine g_goto (tgt := 36) hX dX8_isOpen_32 (by decide) ?_
        refine b_zret hX rfl hE dX8_isOpen_36 (by omega) (by omega) ?_
        exact ⟨congrArg (fun z => (ad, mL S, mf dT ad z S)) (by simp [up2_ss, opC, c_4, c_16]), by simp [opC, c_4, c_16, c_28, nI_clamp (n := i) (by omega)]⟩
abbrev rm_X8_isHeard : Room := { frames := 2, cells := 0, slots := 0, locals := 42 }
theorem hd_X8_isHeard : yX8_isHeard.cls = RX8 ∧ yX8_isHeard.cls ≠ "java/lang/invoke/MethodHandle" ∧ yX8_isHeard.cls ≠ "java/lang/invoke/VarHandle" ∧ (parseMethodDescriptor yX8_isHeard.desc).map (fun d => d.parameters.length) = some 1 := by decide +kernel
set_option maxRecDepth 100000 in
set_option maxHeartbeats 4000000 in
theorem k_X8_isHeard {D : va_G} {dT : Nat → ClassId} {Z : ZT} {ad : Nat → Nat} (M : Nat → Nat → Int32) (S : SZ) (hS : WS S) (hw1 : M 1 2 = nI S.1) (hw2 : M 2 2 = nI S.2.1) (hw3 : M 3 2 = nI S.2.2.1) (n : Int32) : ∀ l8, BI l8 yX8_isHeard wsX8_isHeard rm_X8_isHeard D (tyl dT) Z ad (mL S) (pf dT mK mN M (mR S) ad) [.ref (ad 0), .int n] 0 0 (fun r u => u = (ad, mL S, mf dT ad (up2 M 0 15 (opC M n)) S) ∧ (if opC M n = 0 then (if M (20 + n.toNatClampNeg) 7 = 0 then 0 else 1) else 0) = r) := by
  intro l9
  refine bi_of (own := RX8) (cc := cX8_isHeard) (maxL := 2) (some .boolean) [(0, .ref (ad 0)), (1, .int n)] (by decide) rfl rfl rfl (Nat.le_of_ble_eq_true rfl) ?_
  intro X hX hE hN hM
  have q_w1 : Cond.fieldLink RX8 24 "PerforatumModel" "valves" "[LPerforatumModel$Valve;" ∈ wsX8_isHeard := List.mem_of_getElem? (i := 1) rfl
  have q_inX8 : ∀ w ∈ wsX80, w ∈ wsX8_isHeard := by decide +kernel
  have q_w2 : Cond.fieldLink RX8 180 "PerforatumModel$Valve" "state" "I" ∈ wsX8_isHeard := List.mem_of_getElem? (i := 2) rfl
  have q_inX7 : ∀ w ∈ wsX70, w ∈ wsX8_isHeard := by decide +kernel
  have hS1 := hS.1
  have hS2 := hS.2.1
  have hS3 := hS.2.2.1
  refine g_aload_n hX 0 rfl dX8_isHeard_0 rfl ?_
  refine b_callI_V hX hM (b := 0) [] (m_lo (by decide)) (pf_obj rfl (by decide)) rfl (k_X8_noPlay (m_lo (by decide)) rfl) gX8_isHeard_X8_noPlay rfl rfl rfl hd_X8_noPlay ⟨Nat.le_of_ble_eq_true rfl, Nat.le_of_ble_eq_true rfl⟩ ⟨Nat.le_of_ble_eq_true rfl, Nat.le_of_ble_eq_true rfl⟩ rfl (Nat.le_of_ble_eq_true rfl) dX8_isHeard_1 (fun r9 ad9 L9 f9 hp9 => ?_)
  obtain ⟨he9, hr9⟩ := hp9
  cases he9
  subst hr9
  refine g_if_ne (tgt := 35) hX dX8_isHeard_4 (by decide) (fun c_4 => ?_) (fun c_4 => ?_)
  · have c_4 := z11 c_4
    refine g_iconst hX (0) dX8_isHeard_35 rfl ?_
    refine b_zret hX rfl hE dX8_isHeard_36 (by omega) (by omega) ?_
    exact ⟨congrArg (fun z => (ad, mL S, mf dT ad z S)) (by simp [up2_ss, opC, c_4]), by simp [opC, c_4]⟩
  · have c_4 := z10 c_4
    refine g_aload_n hX 0 rfl dX8_isHeard_7 rfl ?_
    refine g_iload_n hX 1 rfl dX8_isHeard_8 rfl ?_
    refine b_callI_S hX hM [.int n] (k_X8_isNote n) gX8_isHeard_X8_isNote rfl rfl rfl hd_X8_isNote.2 ⟨Nat.le_of_ble_eq_true rfl, Nat.le_of_ble_eq_true rfl⟩ ⟨Nat.le_of_ble_eq_true rfl, Nat.le_of_ble_eq_true rfl⟩ rfl (Nat.le_of_ble_eq_true rfl) dX8_isHeard_9 (fun r9 ad9 L9 f9 hp9 => ?_)
    obtain ⟨he9, hr9⟩ := hp9
    cases he9
    subst hr9
    refine g_iconst hX (2) dX8_isHeard_12 rfl ?_
    refine b_callI_V hX hM (b := 0) [.int (isi n 0 11), .int 2] (m_lo (by decide)) (pf_obj rfl (by decide)) rfl (k_X8_no (m_lo (by decide)) rfl (isi n 0 11) 2) gX8_isHeard_X8_no rfl rfl rfl hd_X8_no ⟨Nat.le_of_ble_eq_true rfl, Nat.le_of_ble_eq_true rfl⟩ ⟨Nat.le_of_ble_eq_true rfl, Nat.le_of_ble_eq_true rfl⟩ rfl (Nat.le_of_ble_eq_true rfl) dX8_isHeard_13 (fun r9 ad9 L9 f9 hp9 => ?_)
    obtain ⟨he9, hr9⟩ := hp9
    cases he9
    subst hr9
    refine g_if_ne (tgt := 35) hX dX8_isHeard_16 (by decide) (fun c_16 => ?_) (fun c_16 => ?_)
    · have c_16 := z11 c_16
      refine g_iconst hX (0) dX8_isHeard_35 rfl ?_
      refine b_zret hX rfl hE dX8_isHeard_36 (by omega) (by omega) ?_
      exact ⟨congrArg (fun z => (ad, mL S, mf dT ad z S)) (by simp [up2_ss, opC, c_4, c_16]), by simp [opC, c_4, c_16]⟩
    · have c_16 := z10 c_16
      rw [show (up2 (up2 M 0 15 (if M 0 6 < 0 then 1 else 0)) 0 15 (if (isi n 0 11) = 0 then 2 else 0)) = up2 M 0 15 0 from by simp [up2_ss, c_4, c_16]]
      obtain ⟨i, hi, rfl⟩ := isi_k (n := 11) c_16 (by decide) (by decide)
      refine g_aload_n hX 0 rfl dX8_isHeard_19 rfl ?_
      refine g_getRs (i := 0) hX 12 3 q_inX8 (m_lo (by decide)) rfl (by decide) rfl (by decide) rfl q_w1 rfl (j := 4) rfl dX8_isHeard_20 ?_
      refine g_iload_n hX 1 rfl dX8_isHeard_23 rfl ?_
      refine h_aald24 (i := 4) hX i rfl (by show _ < (12 : Nat); omega) (by decide) (j := (20 + i)) (mR_v (by omega)) (m_lo (by decide)) rfl dX8_isHeard_24 ?_
      refine g_getI (i := (20 + i)) hX 11 7 q_inX7 (m_v (by omega)) (mK_v (by omega)) (by decide) rfl (by decide) rfl q_w2 rfl dX8_isHeard_25 ?_
      refine g_eqi (y := (M (20 + i) 7)) (up2_n (Or.inl (by omega))) ?_
      refine g_if_eq (tgt := 35) hX dX8_isHeard_28 (by decide) (fun c_28 => ?_) (fun c_28 => ?_)
      · refine g_iconst hX (0) dX8_isHeard_35 rfl ?_
        refine b_zret hX rfl hE dX8_isHeard_36 (by omega) (by omega) ?_
        exact ⟨congrArg (fun z => (ad, mL S, mf dT ad z S)) (by simp [up2_ss, opC, c_4, c_16]), by simp [opC, c_4, c_16, c_28, nI_clamp (n := i) (by omega)]⟩
      · refine g_iconst hX (1) dX8_isHeard_31 rfl ?_
        refine g_goto (tgt := 36) hX dX8_isHeard_32 (by decide) ?_
        refine b_zret hX rfl hE dX8_isHeard_36 (by omega) (by omega) ?_
        exact ⟨congrArg (fun z => (ad, mL S, mf dT ad z S)) (by simp [up2_ss, opC, c_4, c_16]), by simp [opC, c_4, c_16, c_28, nI_clamp (n := i) (by omega)]⟩
abbrev rm_X8_sounding : Room := { frames := 4, cells := 0, slots := 0, locals := 91 }
theorem hd_X8_sounding : yX8_sounding.cls = RX8 ∧ yX8_sounding.cls ≠ "java/lang/invoke/MethodHandle" ∧ yX8_sounding.cls ≠ "java/lang/invoke/VarHandle" ∧ (parseMethodDescriptor yX8_sounding.desc).map (fun d => d.parameters.length) = some 2 := by decide +kernel
set_option maxRecDepth 100000 in
set_option maxHeartbeats 4000000 in
theorem k_X8_sounding {D : va_G} {dT : Nat → ClassId} {Z : ZT} {ad : Nat → Nat} (M : Nat → Nat → Int32) (S : SZ) (hS : WS S) (hw1 : M 1 2 = nI S.1) (hw2 : M 2 2 = nI S.2.1) (hw3 : M 3 2 = nI S.2.2.1) (x w : Int32) : ∀ l8, BI l8 yX8_sounding wsX8_sounding rm_X8_sounding D (tyl dT) Z ad (mL S) (pf dT mK mN M (mR S) ad) [.ref (ad 0), .int x, .int w] 0 0 (fun r u => u = (ad, mL S, mf dT ad (up2 M 0 15 (soC S x w)) S) ∧ (if soC S x w = 0 then M (8000 + x.toNatClampNeg) (ixS 2 w).toNatClampNeg else 0) = r) := by
  intro l9
  refine bi_of (own := RX8) (cc := cX8_sounding) (maxL := 4) (some .int) [(0, .ref (ad 0)), (1, .int x), (2, .int w)] (by decide) rfl rfl rfl (Nat.le_of_ble_eq_true rfl) ?_
  intro X hX hE hN hM
  have q_w1 : Cond.fieldLink RX8 19 "PerforatumModel" "sounds" "Ljava/util/List;" ∈ wsX8_sounding := List.mem_of_getElem? (i := 1) rfl
  have q_inX8 : ∀ w ∈ wsX80, w ∈ wsX8_sounding := by decide +kernel
  have q_w2 : Cond.classLink RX8 117 "[I" ∈ wsX8_sounding := List.mem_of_getElem? (i := 2) rfl
  have hS1 := hS.1
  have hS2 := hS.2.1
  have hS3 := hS.2.2.1
  refine b_ldcS hX hM rfl 2 (by decide) rfl dX8_sounding_0 ?_
  refine g_iload_n hX 2 rfl dX8_sounding_2 rfl ?_
  refine b_callI_VS hX hM (i := 2) (by decide) [.int w] (k_J0_indexOf_0f7a4 2 (by decide) w) gX8_sounding_J0_indexOf_0f7a4 rfl rfl rfl hd_J0_indexOf_0f7a4 ⟨Nat.le_of_ble_eq_true rfl, Nat.le_of_ble_eq_true rfl⟩ ⟨Nat.le_of_ble_eq_true rfl, Nat.le_of_ble_eq_true rfl⟩ rfl (Nat.le_of_ble_eq_true rfl) dX8_sounding_3 (fun r9 ad9 L9 f9 hp9 => ?_)
  obtain ⟨he9, hr9⟩ := hp9
  cases he9
  subst hr9
  refine g_eqi (y := ixS 2 w) rfl ?_
  refine g_istore_n hX [(3, .int (ixS 2 w)), (0, .ref (ad 0)), (1, .int x), (2, .int w)] rfl dX8_sounding_6 rfl (by decide) ?_
  refine g_aload_n hX 1 rfl dX8_sounding_7 rfl ?_
  refine g_iload_n hX 0 rfl dX8_sounding_8 rfl ?_
  refine g_if_lt (tgt := 16) hX dX8_sounding_9 (by decide) (fun c_9 => ?_) (fun c_9 => ?_)
  · refine g_iconst hX (0) dX8_sounding_16 rfl ?_
    refine g_iconst hX (1) dX8_sounding_17 rfl ?_
    refine b_callI_V hX hM (b := 0) [.int 0, .int 1] (m_lo (by decide)) (pf_obj rfl (by decide)) rfl (k_X8_no (m_lo (by decide)) rfl 0 1) gX8_sounding_X8_no rfl rfl rfl hd_X8_no ⟨Nat.le_of_ble_eq_true rfl, Nat.le_of_ble_eq_true rfl⟩ ⟨Nat.le_of_ble_eq_true rfl, Nat.le_of_ble_eq_true rfl⟩ rfl (Nat.le_of_ble_eq_true rfl) dX8_sounding_18 (fun r9 ad9 L9 f9 hp9 => ?_)
    obtain ⟨he9, hr9⟩ := hp9
    cases he9
    subst hr9
    rw [show (if (0 : Int32) = 0 then (1 : Int32) else 0) = 1 from by decide]
    refine g_eqi (y := 1) (by decide) ?_
    refine g_if_ne (tgt := 48) hX dX8_sounding_21 (by decide) (fun c_21 => ?_) (fun c_21 => ?_)
    · refine g_iconst hX (0) dX8_sounding_48 rfl ?_
      refine g_goto (tgt := 67) hX dX8_sounding_49 (by decide) ?_
      refine b_iret hX hE dX8_sounding_67 (by omega) (by omega) ?_
      exact ⟨congrArg (fun z => (ad, mL S, mf dT ad z S)) (by simp [up2_ss, soC, c_9]), by simp [soC, c_9]⟩
    · first | exact absurd c_21 (by decide) | exact absurd (by decide) c_21
  · refine g_iconst hX (1) dX8_sounding_12 rfl ?_
    refine g_goto (tgt := 17) hX dX8_sounding_13 (by decide) ?_
    refine g_iconst hX (1) dX8_sounding_17 rfl ?_
    refine b_callI_V hX hM (b := 0) [.int 1, .int 1] (m_lo (by decide)) (pf_obj rfl (by decide)) rfl (k_X8_no (m_lo (by decide)) rfl 1 1) gX8_sounding_X8_no rfl rfl rfl hd_X8_no ⟨Nat.le_of_ble_eq_true rfl, Nat.le_of_ble_eq_true rfl⟩ ⟨Nat.le_of_ble_eq_true rfl, Nat.le_of_ble_eq_true rfl⟩ rfl (Nat.le_of_ble_eq_true rfl) dX8_sounding_18 (fun r9 ad9 L9 f9 hp9 => ?_)
    obtain ⟨he9, hr9⟩ := hp9
    cases he9
    subst hr9
    rw [show (if (1 : Int32) = 0 then (1 : Int32) else 0) = 0 from by decide]
    refine g_eqi (y := 0) (by decide) ?_
    refine g_if_ne (tgt := 48) hX dX8_sounding_21 (by decide) (fun c_21 => ?_) (fun c_21 => ?_)
    · first | exact absurd c_21 (by decide) | exact absurd (by decide) c_21
    · refine g_aload_n hX 1 rfl dX8_sounding_24 rfl ?_
      refine g_iload_n hX 2 rfl dX8_sounding_25 rfl ?_
      refine g_iconst hX (0) dX8_sounding_26 rfl ?_
      refine g_aload_n hX 1 rfl dX8_sounding_27 rfl ?_
      refine g_getRs (i := 0) hX 12 2 q_inX8 (m_lo (by decide)) rfl (by decide) rfl (by decide) rfl q_w1 rfl (j := 3) rfl dX8_sounding_28 ?_
      refine b_callI_F hX hM (b := 3) [] (m_lo (by decide)) (pf_obj rfl (by decide)) rfl (k_Jx4a65c_size_8abf5 3 (m_lo (by decide)) rfl) gX8_sounding_Jx4a65c_size_8abf5_f54Jx4a65c (by decide +kernel) rfl rfl rfl hdF_size ⟨Nat.le_of_ble_eq_true rfl, Nat.le_of_ble_eq_true rfl⟩ ⟨Nat.le_of_ble_eq_true rfl, Nat.le_of_ble_eq_true rfl⟩ rfl (Nat.le_of_ble_eq_true rfl) dX8_sounding_31 (fun r9 ad9 L9 f9 hp9 => ?_)
      obtain ⟨he9, hr9⟩ := hp9
      cases he9
      subst hr9
      refine g_eqi (y := (nI S.2.2.1)) ((up2_n (Or.inl (by decide))).trans hw3) ?_
      refine g_iconst hX (1) dX8_sounding_36 rfl ?_
      refine g_isub hX dX8_sounding_37 ?_
      refine b_callI_S hX hM [.int x, .int 0, .int ((nI S.2.2.1) - 1)] (k_X8_isIn x 0 ((nI S.2.2.1) - 1)) gX8_sounding_X8_isIn rfl rfl rfl hd_X8_isIn.2 ⟨Nat.le_of_ble_eq_true rfl, Nat.le_of_ble_eq_true rfl⟩ ⟨Nat.le_of_ble_eq_true rfl, Nat.le_of_ble_eq_true rfl⟩ rfl (Nat.le_of_ble_eq_true rfl) dX8_sounding_38 (fun r9 ad9 L9 f9 hp9 => ?_)
      obtain ⟨he9, hr9⟩ := hp9
      cases he9
      subst hr9
      refine g_iconst hX (2) dX8_sounding_41 rfl ?_
      refine b_callI_V hX hM (b := 0) [.int (isi x 0 ((nI S.2.2.1) - 1)), .int 2] (m_lo (by decide)) (pf_obj rfl (by decide)) rfl (k_X8_no (m_lo (by decide)) rfl (isi x 0 ((nI S.2.2.1) - 1)) 2) gX8_sounding_X8_no rfl rfl rfl hd_X8_no ⟨Nat.le_of_ble_eq_true rfl, Nat.le_of_ble_eq_true rfl⟩ ⟨Nat.le_of_ble_eq_true rfl, Nat.le_of_ble_eq_true rfl⟩ rfl (Nat.le_of_ble_eq_true rfl) dX8_sounding_42 (fun r9 ad9 L9 f9 hp9 => ?_)
      obtain ⟨he9, hr9⟩ := hp9
      cases he9
      subst hr9
      refine g_if_eq (tgt := 52) hX dX8_sounding_45 (by decide) (fun c_45 => ?_) (fun c_45 => ?_)
      · have c_45 := z10 c_45
        rw [show (up2 (up2 M 0 15 0) 0 15 (if (isi x 0 ((nI S.2.2.1) - 1)) = 0 then 2 else 0)) = up2 M 0 15 0 from by simp [up2_ss, c_45]]
        obtain ⟨j, hj, rfl⟩ := isi_n c_45 (by have := hS.2.2.1; omega)
        obtain ⟨k, hk, hik⟩ := ix_lt (i := 2) (by decide) c_9
        have hk5 : k < 5 := hk
        refine g_lvs (lv2 := [(3, .int (nI k)), (0, .ref (ad 0)), (1, .int (nI j)), (2, .int w)]) (st2 := []) (by rw [hik]) rfl ?_
        refine g_aload_n hX 1 rfl dX8_sounding_52 rfl ?_
        refine g_getRs (i := 0) hX 12 2 q_inX8 (m_lo (by decide)) rfl (by decide) rfl (by decide) rfl q_w1 rfl (j := 3) rfl dX8_sounding_53 ?_
        refine g_iload_n hX 2 rfl dX8_sounding_56 rfl ?_
        refine b_callQ_F hX hM (b := 3) [.int (nI j)] (m_lo (by decide)) (pf_obj rfl (by decide)) rfl (q_get3 S hS (fun _ h => h) (fun _ _ => rfl) ((up2_n (Or.inl (by decide))).trans hw3) j hj) gX8_sounding_Jx4a65c_get_915e3_f81Jx4a65c (by decide +kernel) rfl rfl rfl hdF_get ⟨Nat.le_of_ble_eq_true rfl, Nat.le_of_ble_eq_true rfl⟩ ⟨Nat.le_of_ble_eq_true rfl, Nat.le_of_ble_eq_true rfl⟩ rfl (Nat.le_of_ble_eq_true rfl) dX8_sounding_57 (fun r9 ad9 L9 f9 hp9 => ?_)
        obtain ⟨he9, hr9⟩ := hp9
        cases he9
        subst hr9
        refine b_cast20 (i := (8000 + j)) hX (m_s hS hj) (mK_h (by omega)) q_w2 dX8_sounding_62 ?_
        refine g_iload_n hX 0 rfl dX8_sounding_65 rfl ?_
        refine h_iald (i := (8000 + j)) hX k rfl (by rw [mN_s (by have := hS.2.2.1; omega)]; omega) (by rw [mN_s (by have := hS.2.2.1; omega)]; decide) (m_s hS hj) (mK_h (by omega)) dX8_sounding_66 ?_
        refine g_eqi (y := (M (8000 + j) k)) (up2_n (Or.inl (by omega))) ?_
        refine b_iret hX hE dX8_sounding_67 (by omega) (by omega) ?_
        exact ⟨congrArg (fun z => (ad, mL S, mf dT ad z S)) (by simp [up2_ss, soC, c_9, c_45]), by simp [soC, c_9, c_45, hik, show ¬ nI k < 0 from nI_pos (by omega), nI_clamp (n := j) (by have := hS.2.2.1; omega), nI_clamp (n := k) (by omega)]⟩
      · have c_45 := z11 c_45
        refine g_iconst hX (0) dX8_sounding_48 rfl ?_
        refine g_goto (tgt := 67) hX dX8_sounding_49 (by decide) ?_
        refine b_iret hX hE dX8_sounding_67 (by omega) (by omega) ?_
        exact ⟨congrArg (fun z => (ad, mL S, mf dT ad z S)) (by simp [up2_ss, soC, c_9, c_45]), by simp [soC, c_9, c_45]⟩
abbrev rm_X8_loudest : Room := { frames := 3, cells := 0, slots := 0, locals := 64 }
theorem hd_X8_loudest : yX8_loudest.cls = RX8 ∧ yX8_loudest.cls ≠ "java/lang/invoke/MethodHandle" ∧ yX8_loudest.cls ≠ "java/lang/invoke/VarHandle" ∧ (parseMethodDescriptor yX8_loudest.desc).map (fun d => d.parameters.length) = some 0 := by decide +kernel
set_option maxRecDepth 100000 in
set_option maxHeartbeats 4000000 in
theorem k_X8_loudest {D : va_G} {dT : Nat → ClassId} {Z : ZT} {ad : Nat → Nat} (M : Nat → Nat → Int32) (S : SZ) (hS : WS S) (hw1 : M 1 2 = nI S.1) (hw2 : M 2 2 = nI S.2.1) (hw3 : M 3 2 = nI S.2.2.1) : ∀ l8, BI l8 yX8_loudest wsX8_loudest rm_X8_loudest D (tyl dT) Z ad (mL S) (pf dT mK mN M (mR S) ad) [.ref (ad 0)] 0 0 (fun r u => u = (ad, mL S, mf dT ad (up2 M 0 15 (if S.2.2.1 = 0 then 1 else 0)) S) ∧ (if S.2.2.1 = 0 then 0 else nI (loM M (S.2.2.1 - 1))) = r) := by
  intro l9
  refine bi_of (own := RX8) (cc := cX8_loudest) (maxL := 3) (some .int) [(0, .ref (ad 0))] (by decide) rfl rfl rfl (Nat.le_of_ble_eq_true rfl) ?_
  intro X hX hE hN hM
  have q_w1 : Cond.fieldLink RX8 19 "PerforatumModel" "sounds" "Ljava/util/List;" ∈ wsX8_loudest := List.mem_of_getElem? (i := 1) rfl
  have q_inX8 : ∀ w ∈ wsX80, w ∈ wsX8_loudest := by decide +kernel
  have q_w2 : Cond.classLink RX8 117 "[I" ∈ wsX8_loudest := List.mem_of_getElem? (i := 2) rfl
  have hS1 := hS.1
  have hS2 := hS.2.1
  have hS3 := hS.2.2.1
  refine g_iconst hX (0) dX8_loudest_0 rfl ?_
  refine g_istore_n hX [(1, .int 0), (0, .ref (ad 0))] rfl dX8_loudest_1 rfl (by decide) ?_
  refine g_iconst hX (1) dX8_loudest_2 rfl ?_
  refine g_istore_n hX [(2, .int 1), (1, .int 0), (0, .ref (ad 0))] rfl dX8_loudest_3 rfl (by decide) ?_
  have lp_4 : ∀ (n9 : Nat) (k : Nat) (b : Nat), S.2.2.1 - k < n9 → (1 ≤ k ∧ (k ≤ S.2.2.1 ∨ k = 1)) → (b = loM M (k - 1) ∧ b < k) → GG X D ad (mL S) (pf dT mK mN M (mR S) ad) [(2, .int (nI k)), (1, .int (nI b)), (0, .ref (ad 0))] (0) (0) 4 [] := by
    intro n9
    induction n9 with
    | zero => intro k b h9; exact absurd h9 (Nat.not_lt_zero _)
    | succ n9 ih9 =>
      intro k b h9 hk hb
      have ih_4 := ih9
      refine g_iload_n hX 0 rfl dX8_loudest_4 rfl ?_
      refine g_aload_n hX 2 rfl dX8_loudest_5 rfl ?_
      refine g_getRs (i := 0) hX 12 2 q_inX8 (m_lo (by decide)) rfl (by decide) rfl (by decide) rfl q_w1 rfl (j := 3) rfl dX8_loudest_6 ?_
      refine b_callI_F hX hM (b := 3) [] (m_lo (by decide)) (pf_obj rfl (by decide)) rfl (k_Jx4a65c_size_8abf5 3 (m_lo (by decide)) rfl) gX8_loudest_Jx4a65c_size_8abf5_f54Jx4a65c (by decide +kernel) rfl rfl rfl hdF_size ⟨Nat.le_of_ble_eq_true rfl, Nat.le_of_ble_eq_true rfl⟩ ⟨Nat.le_of_ble_eq_true rfl, Nat.le_of_ble_eq_true rfl⟩ rfl (Nat.le_of_ble_eq_true rfl) dX8_loudest_9 (fun r9 ad9 L9 f9 hp9 => ?_)
      obtain ⟨he9, hr9⟩ := hp9
      cases he9
      subst hr9
      refine g_eqi (y := (nI S.2.2.1)) hw3 ?_
      refine g_icmp_ge (tgt := 62) hX dX8_loudest_14 (by decide) (fun c_14 => ?_) (fun c_14 => ?_)
      · have c_14 : S.2.2.1 ≤ k := (nI_leI (a := S.2.2.1) (b := k) (by have := hS.2.2.1; omega) (by have := hS.2.2.1; omega)).mp c_14
        refine g_aload_n hX 2 rfl dX8_loudest_62 rfl ?_
        refine g_aload_n hX 2 rfl dX8_loudest_63 rfl ?_
        refine g_getRs (i := 0) hX 12 2 q_inX8 (m_lo (by decide)) rfl (by decide) rfl (by decide) rfl q_w1 rfl (j := 3) rfl dX8_loudest_64 ?_
        refine b_callI_F hX hM (b := 3) [] (m_lo (by decide)) (pf_obj rfl (by decide)) rfl (k_Jx4a65c_isEmpty_aae02 3 (m_lo (by decide)) rfl) gX8_loudest_Jx4a65c_isEmpty_aae02_f224Jx4a65c (by decide +kernel) rfl rfl rfl hdF_isEmpty ⟨Nat.le_of_ble_eq_true rfl, Nat.le_of_ble_eq_true rfl⟩ ⟨Nat.le_of_ble_eq_true rfl, Nat.le_of_ble_eq_true rfl⟩ rfl (Nat.le_of_ble_eq_true rfl) dX8_loudest_67 (fun r9 ad9 L9 f9 hp9 => ?_)
        obtain ⟨he9, hr9⟩ := hp9
        cases he9
        subst hr9
        refine g_eqi (y := if S.2.2.1 = 0 then 1 else 0) (nI_if0 (by have := hS.2.2.1; omega) hw3) ?_
        refine g_if_ne (tgt := 79) hX dX8_loudest_72 (by decide) (fun c_72 => ?_) (fun c_72 => ?_)
        · have c_72 := z11 c_72
          refine g_iconst hX (0) dX8_loudest_79 rfl ?_
          refine g_iconst hX (1) dX8_loudest_80 rfl ?_
          refine b_callI_V hX hM (b := 0) [.int 0, .int 1] (m_lo (by decide)) (pf_obj rfl (by decide)) rfl (k_X8_no (m_lo (by decide)) rfl 0 1) gX8_loudest_X8_no rfl rfl rfl hd_X8_no ⟨Nat.le_of_ble_eq_true rfl, Nat.le_of_ble_eq_true rfl⟩ ⟨Nat.le_of_ble_eq_true rfl, Nat.le_of_ble_eq_true rfl⟩ rfl (Nat.le_of_ble_eq_true rfl) dX8_loudest_81 (fun r9 ad9 L9 f9 hp9 => ?_)
          obtain ⟨he9, hr9⟩ := hp9
          cases he9
          subst hr9
          rw [show (if (0 : Int32) = 0 then (1 : Int32) else 0) = 1 from by decide]
          refine g_eqi (y := 1) (by decide) ?_
          refine g_if_eq (tgt := 91) hX dX8_loudest_84 (by decide) (fun c_84 => ?_) (fun c_84 => ?_)
          · first | exact absurd c_84 (by decide) | exact absurd (by decide) c_84
          · refine g_iconst hX (0) dX8_loudest_87 rfl ?_
            refine g_goto (tgt := 92) hX dX8_loudest_88 (by decide) ?_
            refine b_iret hX hE dX8_loudest_92 (by omega) (by omega) ?_
            exact ⟨congrArg (fun z => (ad, mL S, mf dT ad z S)) (by simp [c_72]), by simp [c_72]⟩
        · have c_72 := z10 c_72
          refine g_iconst hX (1) dX8_loudest_75 rfl ?_
          refine g_goto (tgt := 80) hX dX8_loudest_76 (by decide) ?_
          refine g_iconst hX (1) dX8_loudest_80 rfl ?_
          refine b_callI_V hX hM (b := 0) [.int 1, .int 1] (m_lo (by decide)) (pf_obj rfl (by decide)) rfl (k_X8_no (m_lo (by decide)) rfl 1 1) gX8_loudest_X8_no rfl rfl rfl hd_X8_no ⟨Nat.le_of_ble_eq_true rfl, Nat.le_of_ble_eq_true rfl⟩ ⟨Nat.le_of_ble_eq_true rfl, Nat.le_of_ble_eq_true rfl⟩ rfl (Nat.le_of_ble_eq_true rfl) dX8_loudest_81 (fun r9 ad9 L9 f9 hp9 => ?_)
          obtain ⟨he9, hr9⟩ := hp9
          cases he9
          subst hr9
          rw [show (if (1 : Int32) = 0 then (1 : Int32) else 0) = 0 from by decide]
          refine g_eqi (y := 0) (by decide) ?_
          refine g_if_eq (tgt := 91) hX dX8_loudest_84 (by decide) (fun c_84 => ?_) (fun c_84 => ?_)
          · refine g_iload_n hX 1 rfl dX8_loudest_91 rfl ?_
            refine b_iret hX hE dX8_loudest_92 (by omega) (by omega) ?_
            exact ⟨congrArg (fun z => (ad, mL S, mf dT ad z S)) (by simp [c_72]), by rw [if_neg c_72, hb.1, show k - 1 = S.2.2.1 - 1 by omega]⟩
          · first | exact absurd c_84 (by decide) | exact absurd (by decide) c_84
      · have c_14 : ¬ S.2.2.1 ≤ k := fun h9 => c_14 ((nI_leI (a := S.2.2.1) (b := k) (by have := hS.2.2.1; omega) (by have := hS.2.2.1; omega)).mpr h9)
        refine g_aload_n hX 2 rfl dX8_loudest_17 rfl ?_
        refine g_getRs (i := 0) hX 12 2 q_inX8 (m_lo (by decide)) rfl (by decide) rfl (by decide) rfl q_w1 rfl (j := 3) rfl dX8_loudest_18 ?_
        refine g_iload_n hX 0 rfl dX8_loudest_21 rfl ?_
        refine b_callQ_F hX hM (b := 3) [.int (nI k)] (m_lo (by decide)) (pf_obj rfl (by decide)) rfl (q_get3 S hS (fun _ h => h) (fun _ _ => rfl) hw3 k (by omega)) gX8_loudest_Jx4a65c_get_915e3_f81Jx4a65c (by decide +kernel) rfl rfl rfl hdF_get ⟨Nat.le_of_ble_eq_true rfl, Nat.le_of_ble_eq_true rfl⟩ ⟨Nat.le_of_ble_eq_true rfl, Nat.le_of_ble_eq_true rfl⟩ rfl (Nat.le_of_ble_eq_true rfl) dX8_loudest_22 (fun r9 ad9 L9 f9 hp9 => ?_)
        obtain ⟨he9, hr9⟩ := hp9
        cases he9
        subst hr9
        refine b_cast20 (i := (8000 + k)) hX (m_s hS (by omega)) (mK_h (by omega)) q_w2 dX8_loudest_27 ?_
        refine g_iconst hX (4) dX8_loudest_30 rfl ?_
        refine h_iald (i := (8000 + k)) hX 4 rfl (by rw [mN_s (by have := hS.2.2.1; omega)]; omega) (by rw [mN_s (by have := hS.2.2.1; omega)]; decide) (m_s hS (by omega)) (mK_h (by omega)) dX8_loudest_31 ?_
        refine g_aload_n hX 2 rfl dX8_loudest_32 rfl ?_
        refine g_getRs (i := 0) hX 12 2 q_inX8 (m_lo (by decide)) rfl (by decide) rfl (by decide) rfl q_w1 rfl (j := 3) rfl dX8_loudest_33 ?_
        refine g_iload_n hX 1 rfl dX8_loudest_36 rfl ?_
        refine b_callQ_F hX hM (b := 3) [.int (nI b)] (m_lo (by decide)) (pf_obj rfl (by decide)) rfl (q_get3 S hS (fun _ h => h) (fun _ _ => rfl) hw3 b (by omega)) gX8_loudest_Jx4a65c_get_915e3_f81Jx4a65c (by decide +kernel) rfl rfl rfl hdF_get ⟨Nat.le_of_ble_eq_true rfl, Nat.le_of_ble_eq_true rfl⟩ ⟨Nat.le_of_ble_eq_true rfl, Nat.le_of_ble_eq_true rfl⟩ rfl (Nat.le_of_ble_eq_true rfl) dX8_loudest_37 (fun r9 ad9 L9 f9 hp9 => ?_)
        obtain ⟨he9, hr9⟩ := hp9
        cases he9
        subst hr9
        refine b_cast20 (i := (8000 + b)) hX (m_s hS (by omega)) (mK_h (by omega)) q_w2 dX8_loudest_42 ?_
        refine g_iconst hX (4) dX8_loudest_45 rfl ?_
        refine h_iald (i := (8000 + b)) hX 4 rfl (by rw [mN_s (by have := hS.2.2.1; omega)]; omega) (by rw [mN_s (by have := hS.2.2.1; omega)]; decide) (m_s hS (by omega)) (mK_h (by omega)) dX8_loudest_46 ?_
        refine g_icmp_le (tgt := 54) hX dX8_loudest_47 (by decide) (fun c_47 => ?_) (fun c_47 => ?_)
        · refine g_iload_n hX 1 rfl dX8_loudest_54 rfl ?_
          refine g_istore_n hX [(1, .int (nI b)), (2, .int (nI k)), (0, .ref (ad 0))] rfl dX8_loudest_55 rfl (by decide) ?_
          refine g_iinc hX (nI (k + 1)) [(2, .int (nI (k + 1))), (1, .int (nI b)), (0, .ref (ad 0))] (k := 1) rfl (g_inc k) rfl dX8_loudest_56 (by decide) ?_
          refine g_goto (tgt := 4) hX dX8_loudest_59 (by decide) ?_
          refine g_lv [0, 1, 2] rfl ?_
          exact ih_4 (k + 1) b (by omega) (by omega) (lo_up hk.1 hb (Or.inl ⟨c_47, rfl⟩))
        · refine g_iload_n hX 0 rfl dX8_loudest_50 rfl ?_
          refine g_goto (tgt := 55) hX dX8_loudest_51 (by decide) ?_
          refine g_istore_n hX [(1, .int (nI k)), (2, .int (nI k)), (0, .ref (ad 0))] rfl dX8_loudest_55 rfl (by decide) ?_
          refine g_iinc hX (nI (k + 1)) [(2, .int (nI (k + 1))), (1, .int (nI k)), (0, .ref (ad 0))] (k := 1) rfl (g_inc k) rfl dX8_loudest_56 (by decide) ?_
          refine g_goto (tgt := 4) hX dX8_loudest_59 (by decide) ?_
          refine g_lv [0, 1, 2] rfl ?_
          exact ih_4 (k + 1) k (by omega) (by omega) (lo_up hk.1 hb (Or.inr ⟨c_47, rfl⟩))
  refine g_lv [0, 1, 2] rfl ?_
  exact lp_4 _ 1 0 (Nat.lt_succ_self _) (⟨Nat.le_refl 1, Or.inr rfl⟩) (⟨rfl, Nat.zero_lt_one⟩)
abbrev rm_X8_speed : Room := { frames := 1, cells := 0, slots := 0, locals := 22 }
theorem hd_X8_speed : yX8_speed.cls = RX8 ∧ yX8_speed.cls ≠ "java/lang/invoke/MethodHandle" ∧ yX8_speed.cls ≠ "java/lang/invoke/VarHandle" ∧ (parseMethodDescriptor yX8_speed.desc).map (fun d => d.parameters.length) = some 2 := by decide +kernel
set_option maxRecDepth 100000 in
set_option maxHeartbeats 4000000 in
theorem k_X8_speed {D : va_G} {dT : Nat → ClassId} {Z : ZT} {ad : Nat → Nat} (M : Nat → Nat → Int32) (S : SZ) (hS : WS S) (hw1 : M 1 2 = nI S.1) (hw2 : M 2 2 = nI S.2.1) (hw3 : M 3 2 = nI S.2.2.1) (f g : Int32) : ∀ l8, BI l8 yX8_speed wsX8_speed rm_X8_speed D (tyl dT) Z ad (mL S) (pf dT mK mN M (mR S) ad) [.ref (ad 0), .int f, .int g] 0 0 (fun r u => u = (ad, mL S, mf dT ad (if spC f g = 0 then up2 (up2 (up2 M 0 15 0) 0 13 f) 0 14 g else up2 M 0 15 (spC f g)) S) ∧ (if spC f g = 0 then M 0 13 else 0) = r) := by
  intro l9
  refine bi_of (own := RX8) (cc := cX8_speed) (maxL := 4) (some .int) [(0, .ref (ad 0)), (1, .int f), (2, .int g)] (by decide) rfl rfl rfl (Nat.le_of_ble_eq_true rfl) ?_
  intro X hX hE hN hM
  have q_w1 : Cond.fieldLink RX8 40 "PerforatumModel" "first" "I" ∈ wsX8_speed := List.mem_of_getElem? (i := 1) rfl
  have q_inX8 : ∀ w ∈ wsX80, w ∈ wsX8_speed := by decide +kernel
  have q_w2 : Cond.fieldLink RX8 227 "PerforatumModel" "growth" "I" ∈ wsX8_speed := List.mem_of_getElem? (i := 2) rfl
  have hS1 := hS.1
  have hS2 := hS.2.1
  have hS3 := hS.2.2.1
  refine g_aload_n hX 0 rfl dX8_speed_0 rfl ?_
  refine g_iload_n hX 1 rfl dX8_speed_1 rfl ?_
  refine g_bipush hX (100) dX8_speed_2 rfl ?_
  refine g_sipush hX (900) dX8_speed_4 rfl ?_
  refine b_callI_S hX hM [.int f, .int 100, .int 900] (k_X8_isIn f 100 900) gX8_speed_X8_isIn rfl rfl rfl hd_X8_isIn.2 ⟨Nat.le_of_ble_eq_true rfl, Nat.le_of_ble_eq_true rfl⟩ ⟨Nat.le_of_ble_eq_true rfl, Nat.le_of_ble_eq_true rfl⟩ rfl (Nat.le_of_ble_eq_true rfl) dX8_speed_7 (fun r9 ad9 L9 f9 hp9 => ?_)
  obtain ⟨he9, hr9⟩ := hp9
  cases he9
  subst hr9
  refine g_if_eq (tgt := 27) hX dX8_speed_10 (by decide) (fun c_10 => ?_) (fun c_10 => ?_)
  · refine g_iconst hX (0) dX8_speed_27 rfl ?_
    refine g_iconst hX (1) dX8_speed_28 rfl ?_
    refine b_callI_V hX hM (b := 0) [.int 0, .int 1] (m_lo (by decide)) (pf_obj rfl (by decide)) rfl (k_X8_no (m_lo (by decide)) rfl 0 1) gX8_speed_X8_no rfl rfl rfl hd_X8_no ⟨Nat.le_of_ble_eq_true rfl, Nat.le_of_ble_eq_true rfl⟩ ⟨Nat.le_of_ble_eq_true rfl, Nat.le_of_ble_eq_true rfl⟩ rfl (Nat.le_of_ble_eq_true rfl) dX8_speed_29 (fun r9 ad9 L9 f9 hp9 => ?_)
    obtain ⟨he9, hr9⟩ := hp9
    cases he9
    subst hr9
    rw [show (if (0 : Int32) = 0 then (1 : Int32) else 0) = 1 from by decide]
    refine g_eqi (y := 1) (by decide) ?_
    refine g_if_eq (tgt := 37) hX dX8_speed_32 (by decide) (fun c_32 => ?_) (fun c_32 => ?_)
    · first | exact absurd c_32 (by decide) | exact absurd (by decide) c_32
    · refine g_iconst hX (0) dX8_speed_35 rfl ?_
      refine b_iret hX hE dX8_speed_36 (by omega) (by omega) ?_
      exact ⟨congrArg (fun z => (ad, mL S, mf dT ad z S)) (by simp [up2_ss, spC, c_10]), by simp [spC, c_10]⟩
  · refine g_iload_n hX 2 rfl dX8_speed_13 rfl ?_
    refine g_iconst hX (0) dX8_speed_14 rfl ?_
    refine g_bipush hX (50) dX8_speed_15 rfl ?_
    refine b_callI_S hX hM [.int g, .int 0, .int 50] (k_X8_isIn g 0 50) gX8_speed_X8_isIn rfl rfl rfl hd_X8_isIn.2 ⟨Nat.le_of_ble_eq_true rfl, Nat.le_of_ble_eq_true rfl⟩ ⟨Nat.le_of_ble_eq_true rfl, Nat.le_of_ble_eq_true rfl⟩ rfl (Nat.le_of_ble_eq_true rfl) dX8_speed_17 (fun r9 ad9 L9 f9 hp9 => ?_)
    obtain ⟨he9, hr9⟩ := hp9
    cases he9
    subst hr9
    refine g_if_eq (tgt := 27) hX dX8_speed_20 (by decide) (fun c_20 => ?_) (fun c_20 => ?_)
    · refine g_iconst hX (0) dX8_speed_27 rfl ?_
      refine g_iconst hX (1) dX8_speed_28 rfl ?_
      refine b_callI_V hX hM (b := 0) [.int 0, .int 1] (m_lo (by decide)) (pf_obj rfl (by decide)) rfl (k_X8_no (m_lo (by decide)) rfl 0 1) gX8_speed_X8_no rfl rfl rfl hd_X8_no ⟨Nat.le_of_ble_eq_true rfl, Nat.le_of_ble_eq_true rfl⟩ ⟨Nat.le_of_ble_eq_true rfl, Nat.le_of_ble_eq_true rfl⟩ rfl (Nat.le_of_ble_eq_true rfl) dX8_speed_29 (fun r9 ad9 L9 f9 hp9 => ?_)
      obtain ⟨he9, hr9⟩ := hp9
      cases he9
      subst hr9
      rw [show (if (0 : Int32) = 0 then (1 : Int32) else 0) = 1 from by decide]
      refine g_eqi (y := 1) (by decide) ?_
      refine g_if_eq (tgt := 37) hX dX8_speed_32 (by decide) (fun c_32 => ?_) (fun c_32 => ?_)
      · first | exact absurd c_32 (by decide) | exact absurd (by decide) c_32
      · refine g_iconst hX (0) dX8_speed_35 rfl ?_
        refine b_iret hX hE dX8_speed_36 (by omega) (by omega) ?_
        exact ⟨congrArg (fun z => (ad, mL S, mf dT ad z S)) (by simp [up2_ss, spC, c_10, c_20]), by simp [spC, c_10, c_20]⟩
    · refine g_iconst hX (1) dX8_speed_23 rfl ?_
      refine g_goto (tgt := 28) hX dX8_speed_24 (by decide) ?_
      refine g_iconst hX (1) dX8_speed_28 rfl ?_
      refine b_callI_V hX hM (b := 0) [.int 1, .int 1] (m_lo (by decide)) (pf_obj rfl (by decide)) rfl (k_X8_no (m_lo (by decide)) rfl 1 1) gX8_speed_X8_no rfl rfl rfl hd_X8_no ⟨Nat.le_of_ble_eq_true rfl, Nat.le_of_ble_eq_true rfl⟩ ⟨Nat.le_of_ble_eq_true rfl, Nat.le_of_ble_eq_true rfl⟩ rfl (Nat.le_of_ble_eq_true rfl) dX8_speed_29 (fun r9 ad9 L9 f9 hp9 => ?_)
      obtain ⟨he9, hr9⟩ := hp9
      cases he9
      subst hr9
      rw [show (if (1 : Int32) = 0 then (1 : Int32) else 0) = 0 from by decide]
      refine g_eqi (y := 0) (by decide) ?_
      refine g_if_eq (tgt := 37) hX dX8_speed_32 (by decide) (fun c_32 => ?_) (fun c_32 => ?_)
      · rw [show (up2 M 0 15 0) = up2 M 0 15 0 from by simp [up2_ss, ]]
        refine g_aload_n hX 0 rfl dX8_speed_37 rfl ?_
        refine g_getI (i := 0) hX 12 13 q_inX8 (m_lo (by decide)) rfl (by decide) rfl (by decide) rfl q_w1 rfl dX8_speed_38 ?_
        refine g_eqi (y := (M 0 13)) (up2_n (Or.inr (by decide))) ?_
        refine g_istore_n hX [(3, .int (M 0 13)), (0, .ref (ad 0)), (1, .int f), (2, .int g)] rfl dX8_speed_41 rfl (by decide) ?_
        refine g_aload_n hX 1 rfl dX8_speed_42 rfl ?_
        refine g_iload_n hX 2 rfl dX8_speed_43 rfl ?_
        refine g_putI hX (i := 0) 12 13 q_inX8 (m_lo (by decide)) rfl (by decide) rfl (by decide) rfl q_w1 rfl tyX8_ok nmX8 rfl (ty := .int) (by decide +kernel) rfl rfl dX8_speed_44 ?_
        refine g_aload_n hX 1 rfl dX8_speed_47 rfl ?_
        refine g_iload_n hX 3 rfl dX8_speed_48 rfl ?_
        refine g_putI hX (i := 0) 12 14 q_inX8 (m_lo (by decide)) rfl (by decide) rfl (by decide) rfl q_w2 rfl tyX8_ok nmX8 rfl (ty := .int) (by decide +kernel) rfl rfl dX8_speed_49 ?_
        refine g_iload_n hX 0 rfl dX8_speed_52 rfl ?_
        refine b_iret hX hE dX8_speed_53 (by omega) (by omega) ?_
        exact ⟨congrArg (fun z => (ad, mL S, mf dT ad z S)) (by simp [up2_ss, spC, c_10, c_20]), by simp [spC, c_10, c_20]⟩
      · first | exact absurd c_32 (by decide) | exact absurd (by decide) c_32
abbrev rm_X8_time : Room := { frames := 1, cells := 0, slots := 0, locals := 24 }
theorem hd_X8_time : yX8_time.cls = RX8 ∧ yX8_time.cls ≠ "java/lang/invoke/MethodHandle" ∧ yX8_time.cls ≠ "java/lang/invoke/VarHandle" ∧ (parseMethodDescriptor yX8_time.desc).map (fun d => d.parameters.length) = some 1 := by decide +kernel
set_option maxRecDepth 100000 in
set_option maxHeartbeats 4000000 in
theorem k_X8_time {D : va_G} {dT : Nat → ClassId} {Z : ZT} {ad : Nat → Nat} (M : Nat → Nat → Int32) (S : SZ) (hS : WS S) (hw1 : M 1 2 = nI S.1) (hw2 : M 2 2 = nI S.2.1) (hw3 : M 3 2 = nI S.2.2.1) (fn gn : Nat) (hf1 : 100 ≤ fn) (hf2 : fn ≤ 900) (hg : gn ≤ 50) (hfm : M 0 13 = nI fn) (hgm : M 0 14 = nI gn) (t : Int32) : ∀ l8, BL l8 yX8_time wsX8_time rm_X8_time D (tyl dT) Z ad (mL S) (pf dT mK mN M (mR S) ad) [.ref (ad 0), .int t] 0 0 (fun r u => u = (ad, mL S, mf dT ad (up2 M 0 15 (tmC t)) S) ∧ (if tmC t = 0 then tmM fn gn t.toNatClampNeg else 0) = r) := by
  intro l9
  refine bl_of (own := RX8) (cc := cX8_time) (maxL := 5) [(0, .ref (ad 0)), (1, .int t)] (by decide) rfl rfl rfl (Nat.le_of_ble_eq_true rfl) ?_
  intro X hX hE hN hM
  have q_w1 : Cond.methodLink RX8 191 Lib.Math.min.name ∈ wsX8_time := List.mem_of_getElem? (i := 1) rfl
  have q_w2 : Cond.static Lib.Math.min.name ∈ wsX8_time := List.mem_of_getElem? (i := 2) rfl
  have q_w3 : Cond.initialized "java/lang/Math" ∈ wsX8_time := List.mem_of_getElem? (i := 3) rfl
  have q_w4 : Cond.code Lib.Math.min.name Lib.Math.min.code 2 (some .int) ∈ wsX8_time := List.mem_of_getElem? (i := 4) rfl
  have q_w5 : Cond.constantLong RX8 230 (1000000) ∈ wsX8_time := List.mem_of_getElem? (i := 5) rfl
  have q_w6 : Cond.fieldLink RX8 40 "PerforatumModel" "first" "I" ∈ wsX8_time := List.mem_of_getElem? (i := 6) rfl
  have q_inX8 : ∀ w ∈ wsX80, w ∈ wsX8_time := by decide +kernel
  have q_w7 : Cond.fieldLink RX8 227 "PerforatumModel" "growth" "I" ∈ wsX8_time := List.mem_of_getElem? (i := 7) rfl
  have hS1 := hS.1
  have hS2 := hS.2.1
  have hS3 := hS.2.2.1
  refine g_lconst hX (0) dX8_time_0 rfl ?_
  refine g_lstore_n hX [(2, .long 0), (0, .ref (ad 0)), (1, .int t)] rfl dX8_time_1 rfl (by decide) ?_
  refine g_iconst hX (0) dX8_time_2 rfl ?_
  refine g_istore hX [(4, .int 0), (2, .long 0), (0, .ref (ad 0)), (1, .int t)] rfl dX8_time_3 (by decide) ?_
  have lp_5 : ∀ (n9 : Nat) (k : Nat) (q : Int64), 200 - k < n9 → (k ≤ 200 ∧ (isi t 0 200 = 0 ∨ k ≤ t.toNatClampNeg)) → (q = tmM fn gn k) → GG X D ad (mL S) (pf dT mK mN M (mR S) ad) [(4, .int (nI k)), (2, .long q), (0, .ref (ad 0)), (1, .int t)] (0) (0) 5 [] := by
    intro n9
    induction n9 with
    | zero => intro k q h9; exact absurd h9 (Nat.not_lt_zero _)
    | succ n9 ih9 =>
      intro k q h9 hk hq
      have ih_5 := ih9
      refine g_iload hX 0 rfl dX8_time_5 ?_
      refine g_sipush hX (200) dX8_time_7 rfl ?_
      refine g_iload_n hX 3 rfl dX8_time_10 rfl ?_
      refine g_mmin hX q_w1 q_w2 q_w3 q_w4 (Nat.le_of_ble_eq_true rfl) (Nat.le_of_ble_eq_true rfl) (Nat.le_of_ble_eq_true rfl) (Nat.le_of_ble_eq_true rfl) dX8_time_11 ?_
      refine g_icmp_ge (tgt := 46) hX dX8_time_14 (by decide) (fun c_14 => ?_) (fun c_14 => ?_)
      · refine g_aload_n hX 2 rfl dX8_time_46 rfl ?_
        refine g_iload_n hX 3 rfl dX8_time_47 rfl ?_
        refine g_iconst hX (0) dX8_time_48 rfl ?_
        refine g_sipush hX (200) dX8_time_49 rfl ?_
        refine b_callI_S hX hM [.int t, .int 0, .int 200] (k_X8_isIn t 0 200) gX8_time_X8_isIn rfl rfl rfl hd_X8_isIn.2 ⟨Nat.le_of_ble_eq_true rfl, Nat.le_of_ble_eq_true rfl⟩ ⟨Nat.le_of_ble_eq_true rfl, Nat.le_of_ble_eq_true rfl⟩ rfl (Nat.le_of_ble_eq_true rfl) dX8_time_52 (fun r9 ad9 L9 f9 hp9 => ?_)
        obtain ⟨he9, hr9⟩ := hp9
        cases he9
        subst hr9
        refine g_iconst hX (1) dX8_time_55 rfl ?_
        refine b_callI_V hX hM (b := 0) [.int (isi t 0 200), .int 1] (m_lo (by decide)) (pf_obj rfl (by decide)) rfl (k_X8_no (m_lo (by decide)) rfl (isi t 0 200) 1) gX8_time_X8_no rfl rfl rfl hd_X8_no ⟨Nat.le_of_ble_eq_true rfl, Nat.le_of_ble_eq_true rfl⟩ ⟨Nat.le_of_ble_eq_true rfl, Nat.le_of_ble_eq_true rfl⟩ rfl (Nat.le_of_ble_eq_true rfl) dX8_time_56 (fun r9 ad9 L9 f9 hp9 => ?_)
        obtain ⟨he9, hr9⟩ := hp9
        cases he9
        subst hr9
        refine g_if_eq (tgt := 66) hX dX8_time_59 (by decide) (fun c_59 => ?_) (fun c_59 => ?_)
        · have c_59 := z10 c_59
          refine g_lload_n hX 1 rfl dX8_time_66 rfl ?_
          refine b_lret hX hE dX8_time_67 (by omega) (by omega) ?_
          exact ⟨congrArg (fun z => (ad, mL S, mf dT ad z S)) (by simp [tmC, c_59]), by rw [show tmC t = 0 by simp [tmC, c_59], if_pos rfl, hq, tm_e hk c_14 c_59]⟩
        · have c_59 := z11 c_59
          refine g_lconst hX (0) dX8_time_62 rfl ?_
          refine g_goto (tgt := 67) hX dX8_time_63 (by decide) ?_
          refine b_lret hX hE dX8_time_67 (by omega) (by omega) ?_
          exact ⟨congrArg (fun z => (ad, mL S, mf dT ad z S)) (by simp [tmC, c_59]), by simp [tmC, c_59]⟩
      · refine g_lload_n hX 1 rfl dX8_time_17 rfl ?_
        refine g_ldc2 hX (1000000) q_w5 dX8_time_18 ?_
        refine g_aload_n hX 2 rfl dX8_time_21 rfl ?_
        refine g_getI (i := 0) hX 12 13 q_inX8 (m_lo (by decide)) rfl (by decide) rfl (by decide) rfl q_w6 rfl dX8_time_22 ?_
        refine g_eqi (y := (nI fn)) hfm ?_
        refine g_iload hX 0 rfl dX8_time_25 ?_
        refine g_aload_n hX 2 rfl dX8_time_27 rfl ?_
        refine g_getI (i := 0) hX 12 14 q_inX8 (m_lo (by decide)) rfl (by decide) rfl (by decide) rfl q_w7 rfl dX8_time_28 ?_
        refine g_eqi (y := (nI gn)) hgm ?_
        refine g_imul hX dX8_time_31 ?_
        refine g_bipush hX (10) dX8_time_32 rfl ?_
        refine g_idiv hX dX8_time_34 (by decide) ?_
        refine g_iadd hX dX8_time_35 ?_
        refine g_i2l hX dX8_time_36 ?_
        refine g_ldiv hX dX8_time_37 (tm_ne hf1 hf2 hg (by omega)) ?_
        refine g_ladd hX dX8_time_38 ?_
        refine g_lstore_n hX [(2, .long (q + ((1000000) / (((nI fn) + (((nI k) * (nI gn)) / 10)).toInt64)))), (4, .int (nI k)), (0, .ref (ad 0)), (1, .int t)] rfl dX8_time_39 rfl (by decide) ?_
        refine g_iinc hX (nI (k + 1)) [(4, .int (nI (k + 1))), (2, .long (q + ((1000000) / (((nI fn) + (((nI k) * (nI gn)) / 10)).toInt64)))), (0, .ref (ad 0)), (1, .int t)] (k := 1) rfl (g_inc k) rfl dX8_time_40 (by decide) ?_
        refine g_goto (tgt := 5) hX dX8_time_43 (by decide) ?_
        refine g_lv [0, 1, 2, 3] rfl ?_
        exact ih_5 (k + 1) (q + ((1000000) / (((nI fn) + (((nI k) * (nI gn)) / 10)).toInt64))) (by have := (tm_k hk c_14).1; omega) (tm_k hk c_14) (by rw [hq]; rfl)
  refine g_lv [0, 1, 2, 3] rfl ?_
  exact lp_5 _ 0 0 (Nat.lt_succ_self _) (⟨Nat.zero_le _, Or.inr (Nat.zero_le _)⟩) rfl
