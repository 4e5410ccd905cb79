abbrev rm_J3_checkIndex_8e157 : Room := { frames := 0, cells := 0, slots := 0, locals := 0 }
theorem hd_J3_checkIndex_8e157 : yJ3_checkIndex_8e157.cls = RJ3 ∧ yJ3_checkIndex_8e157.cls ≠ "java/lang/invoke/MethodHandle" ∧ yJ3_checkIndex_8e157.cls ≠ "java/lang/invoke/VarHandle" ∧ (parseMethodDescriptor yJ3_checkIndex_8e157.desc).map (fun d => d.parameters.length) = some 3 := by decide +kernel
set_option maxRecDepth 100000 in
set_option maxHeartbeats 4000000 in
theorem k_J3_checkIndex_8e157 {D : va_G} {dT : Nat → ClassId} {Z : ZT} {K N : Nat → Nat} {I : Nat → Nat → Int32} {Rr : Nat → Nat → Option Nat} {ad : Nat → Nat} {L : List Nat} (i n : Nat) (hin : i < n) (hn31 : n < 2 ^ 31) : ∀ l, BI l yJ3_checkIndex_8e157 wsJ3_checkIndex_8e157 rm_J3_checkIndex_8e157 D (tyl dT) Z ad L (pf dT K N I Rr ad) [.int (nI i), .int (nI n), .null] 0 0 (fun r u => u = (ad, L, pf dT K N I Rr ad) ∧ nI i = r) := by
  intro l9
  refine bi_of (own := RJ3) (cc := cJ3_checkIndex_8e157) (maxL := 3) (some .int) [(0, .int (nI i)), (1, .int (nI n)), (2, .null)] (by decide) rfl rfl rfl (Nat.le_of_ble_eq_true rfl) ?_
  intro X hX hE hN hM
  refine g_iload_n hX 0 rfl dJ3_checkIndex_8e157_0 rfl ?_
  refine g_if_lt (tgt := 9) hX dJ3_checkIndex_8e157_1 (by decide) (fun c_1 => ?_) (fun c_1 => ?_)
  · exact absurd c_1 (nI_pos (by omega))
  · refine g_iload_n hX 0 rfl dJ3_checkIndex_8e157_4 rfl ?_
    refine g_iload_n hX 1 rfl dJ3_checkIndex_8e157_5 rfl ?_
    refine g_icmp_lt (tgt := 16) hX dJ3_checkIndex_8e157_6 (by decide) (fun c_6 => ?_) (fun c_6 => ?_)
    · have c_6 : i < n := (nI_ltI (a := i) (b := n) (by omega) (by omega)).mp c_6
      refine g_iload_n hX 0 rfl dJ3_checkIndex_8e157_16 rfl ?_
      refine b_iret hX hE dJ3_checkIndex_8e157_17 (by omega) (by omega) ?_
      exact ⟨rfl, rfl⟩
    · exact absurd (nI_lt hin hn31) c_6
abbrev rm_J15_checkIndex_7cf53 : Room := { frames := 1, cells := 0, slots := 0, locals := 22 }
theorem hd_J15_checkIndex_7cf53 : yJ15_checkIndex_7cf53.cls = RJ15 ∧ yJ15_checkIndex_7cf53.cls ≠ "java/lang/invoke/MethodHandle" ∧ yJ15_checkIndex_7cf53.cls ≠ "java/lang/invoke/VarHandle" ∧ (parseMethodDescriptor yJ15_checkIndex_7cf53.desc).map (fun d => d.parameters.length) = some 2 := by decide +kernel
set_option maxRecDepth 100000 in
set_option maxHeartbeats 4000000 in
theorem k_J15_checkIndex_7cf53 {D : va_G} {dT : Nat → ClassId} {Z : ZT} {K N : Nat → Nat} {I : Nat → Nat → Int32} {Rr : Nat → Nat → Option Nat} {ad : Nat → Nat} {L : List Nat} (i n : Nat) (hin : i < n) (hn31 : n < 2 ^ 31) : ∀ l, BI l yJ15_checkIndex_7cf53 wsJ15_checkIndex_7cf53 rm_J15_checkIndex_7cf53 D (tyl dT) Z ad L (pf dT K N I Rr ad) [.int (nI i), .int (nI n)] 0 0 (fun r u => u = (ad, L, pf dT K N I Rr ad) ∧ nI i = r) := by
  intro l9
  refine bi_of (own := RJ15) (cc := cJ15_checkIndex_7cf53) (maxL := 2) (some .int) [(0, .int (nI i)), (1, .int (nI n))] (by decide) rfl rfl rfl (Nat.le_of_ble_eq_true rfl) ?_
  intro X hX hE hN hM
  refine g_iload_n hX 0 rfl dJ15_checkIndex_7cf53_0 rfl ?_
  refine g_iload_n hX 1 rfl dJ15_checkIndex_7cf53_1 rfl ?_
  refine g_null hX dJ15_checkIndex_7cf53_2 ?_
  refine b_callI_S hX hM [.int (nI i), .int (nI n), .null] (k_J3_checkIndex_8e157 i n hin hn31) gJ15_checkIndex_7cf53_J3_checkIndex_8e157 rfl rfl rfl hd_J3_checkIndex_8e157.2 ⟨Nat.le_of_ble_eq_true rfl, Nat.le_of_ble_eq_true rfl⟩ ⟨Nat.le_of_ble_eq_true rfl, Nat.le_of_ble_eq_true rfl⟩ rfl (Nat.le_of_ble_eq_true rfl) dJ15_checkIndex_7cf53_3 (fun r9 ad9 L9 f9 hp9 => ?_)
  obtain ⟨he9, hr9⟩ := hp9
  cases he9
  subst hr9
  refine b_iret hX hE dJ15_checkIndex_7cf53_6 (by omega) (by omega) ?_
  exact ⟨rfl, rfl⟩
