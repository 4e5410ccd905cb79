abbrev rm_X8_soundings : Room := { frames := 1, cells := 0, slots := 0, locals := 20 }
theorem hd_X8_soundings : yX8_soundings.cls = RX8 ∧ yX8_soundings.cls ≠ "java/lang/invoke/MethodHandle" ∧ yX8_soundings.cls ≠ "java/lang/invoke/VarHandle" ∧ (parseMethodDescriptor yX8_soundings.desc).map (fun d => d.parameters.length) = some 0 := by decide +kernel
set_option maxRecDepth 100000 in
set_option maxHeartbeats 4000000 in
theorem k_X8_soundings {D : va_G} {dT : Nat → ClassId} {Z : ZT} {ad : Nat → Nat} (M : Nat → Nat → Int32) (S : SZ) (hS : WS S) (hw1 : M 1 2 = nI S.1) (hw2 : M 2 2 = nI S.2.1) (hw3 : M 3 2 = nI S.2.2.1) : ∀ l8, BI l8 yX8_soundings wsX8_soundings rm_X8_soundings D (tyl dT) Z ad (mL S) (pf dT mK mN M (mR S) ad) [.ref (ad 0)] 0 0 (fun r u => u = (ad, mL S, mf dT ad M S) ∧ nI S.2.2.1 = r) := by
  intro l9
  refine bi_of (own := RX8) (cc := cX8_soundings) (maxL := 1) (some .int) [(0, .ref (ad 0))] (by decide) rfl rfl rfl (Nat.le_of_ble_eq_true rfl) ?_
  intro X hX hE hN hM
  have q_w1 : Cond.fieldLink RX8 19 "PerforatumModel" "sounds" "Ljava/util/List;" ∈ wsX8_soundings := List.mem_of_getElem? (i := 1) rfl
  have q_inX8 : ∀ w ∈ wsX80, w ∈ wsX8_soundings := by decide +kernel
  refine g_aload_n hX 0 rfl dX8_soundings_0 rfl ?_
  refine g_getRs (i := 0) hX 12 2 q_inX8 (m_lo (by decide)) rfl (by decide) rfl (by decide) rfl q_w1 rfl (j := 3) rfl dX8_soundings_1 ?_
  refine b_callI_F hX hM (b := 3) [] (m_lo (by decide)) (pf_obj rfl (by decide)) rfl (k_Jx4a65c_size_8abf5 3 (m_lo (by decide)) rfl) gX8_soundings_Jx4a65c_size_8abf5_f54Jx4a65c (by decide +kernel) rfl rfl rfl (by decide +kernel) ⟨Nat.le_of_ble_eq_true rfl, Nat.le_of_ble_eq_true rfl⟩ ⟨Nat.le_of_ble_eq_true rfl, Nat.le_of_ble_eq_true rfl⟩ rfl (Nat.le_of_ble_eq_true rfl) dX8_soundings_4 (fun r9 ad9 L9 f9 hp9 => ?_)
  obtain ⟨he9, hr9⟩ := hp9
  cases he9
  subst hr9
  refine g_eqi (y := (nI S.2.2.1)) hw3 ?_
  refine b_iret hX hE dX8_soundings_9 (by omega) (by omega) ?_
  exact ⟨rfl, rfl⟩
