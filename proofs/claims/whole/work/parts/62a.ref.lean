abbrev rm_X8_punch : Room := { frames := 3, cells := 0, slots := 0, locals := 66 }
theorem hd_X8_punch : yX8_punch.cls = RX8 ∧ yX8_punch.cls ≠ "java/lang/invoke/MethodHandle" ∧ yX8_punch.cls ≠ "java/lang/invoke/VarHandle" ∧ (parseMethodDescriptor yX8_punch.desc).map (fun d => d.parameters.length) = some 4 := by decide +kernel
set_option maxRecDepth 100000 in
set_option maxHeartbeats 4000000 in
theorem k_X8_punch {D : va_G} {dT : Nat → ClassId} {Z : ZT} {ad : Nat → Nat} (M : Nat → Nat → Int32) (S : SZ) (hS : WS S) (hw1 : M 1 2 = nI S.1) (hw2 : M 2 2 = nI S.2.1) (hw3 : M 3 2 = nI S.2.2.1) (hbit : ∀ j i k, j < S.1 → i < 200 → k < 16 → M (6000 + 200 * j + i) k = 0 ∨ M (6000 + 200 * j + i) k = 1) (v r t q : Int32) (hq : q = 0 ∨ q = 1) : ∀ l8, BI l8 yX8_punch wsX8_punch rm_X8_punch D (tyl dT) Z ad (mL S) (pf dT mK mN M (mR S) ad) [.ref (ad 0), .int v, .int r, .int t, .int q] 0 0 (fun z u => u = (ad, mL S, mf dT ad (if hoC S v r t = 0 then (up2 (up2 M 0 15 0) (6000 + 200 * v.toNatClampNeg + r.toNatClampNeg) t.toNatClampNeg q) else up2 M 0 15 (hoC S v r t)) S) ∧ (if hoC S v r t = 0 then M (6000 + 200 * v.toNatClampNeg + r.toNatClampNeg) t.toNatClampNeg else 0) = z) := by
  intro l9
  refine bi_of (own := RX8) (cc := cX8_punch) (maxL := 6) (some .boolean) [(0, .ref (ad 0)), (1, .int v), (2, .int r), (3, .int t), (4, .int q)] (by decide) rfl rfl rfl (Nat.le_of_ble_eq_true rfl) ?_
  intro X hX hE hN hM
  have q_w1 : Cond.fieldLink RX8 10 "PerforatumModel" "rolls" "Ljava/util/List;" ∈ wsX8_punch := List.mem_of_getElem? (i := 1) rfl
  have q_inX8 : ∀ w ∈ wsX80, w ∈ wsX8_punch := by decide +kernel
  have q_w2 : Cond.classLink RX8 68 "[[Z" ∈ wsX8_punch := List.mem_of_getElem? (i := 2) rfl
  refine g_aload_n hX 0 rfl dX8_punch_0 rfl ?_
  refine g_iload_n hX 1 rfl dX8_punch_1 rfl ?_
  refine g_iload_n hX 2 rfl dX8_punch_2 rfl ?_
  refine g_iload_n hX 3 rfl dX8_punch_3 rfl ?_
  refine b_callI_V hX hM (b := 0) [.int v, .int r, .int t] (m_lo (by decide)) (pf_obj rfl (by decide)) rfl (k_X8_noHole M S hS hw1 hw2 hw3 v r t) gX8_punch_X8_noHole rfl rfl rfl hd_X8_noHole ⟨Nat.le_of_ble_eq_true rfl, Nat.le_of_ble_eq_true rfl⟩ ⟨Nat.le_of_ble_eq_true rfl, Nat.le_of_ble_eq_true rfl⟩ rfl (Nat.le_of_ble_eq_true rfl) dX8_punch_4 (fun r9 ad9 L9 f9 hp9 => ?_)
  obtain ⟨he9, hr9⟩ := hp9
  cases he9
  subst hr9
  refine g_if_eq (tgt := 12) hX dX8_punch_7 (by decide) (fun c_7 => ?_) (fun c_7 => ?_)
  · have c_7 := z01 c_7
    obtain ⟨j, i, k, hj, hi, hk, rfl, rfl, rfl⟩ := hoC_0 hS c_7
    refine g_aload_n hX 0 rfl dX8_punch_12 rfl ?_
    refine g_getRs (i := 0) hX 12 0 q_inX8 (m_lo (by decide)) rfl (by decide) rfl (by decide) rfl q_w1 rfl (j := 1) rfl dX8_punch_13 ?_
    refine g_iload_n hX 1 rfl dX8_punch_16 rfl ?_
    refine b_callQ_F hX hM (b := 1) [.int (nI j)] (m_lo (by decide)) (pf_obj rfl (by decide)) rfl (q_get1 S hS (fun _ h => h) (fun _ _ => rfl) ((up2_n (Or.inl (by decide))).trans hw1) j hj) gX8_punch_Jx4a65c_get_915e3_f81Jx4a65c (by decide +kernel) rfl rfl rfl hdF_get ⟨Nat.le_of_ble_eq_true rfl, Nat.le_of_ble_eq_true rfl⟩ ⟨Nat.le_of_ble_eq_true rfl, Nat.le_of_ble_eq_true rfl⟩ rfl (Nat.le_of_ble_eq_true rfl) dX8_punch_17 (fun r9 ad9 L9 f9 hp9 => ?_)
    obtain ⟨he9, hr9⟩ := hp9
    cases he9
    subst hr9
    refine b_cast26 (i := (5000 + j)) hX (m_o hS hj) (mK_o (by have := hS.1; omega)) q_w2 dX8_punch_22 ?_
    refine g_iload_n hX 2 rfl dX8_punch_25 rfl ?_
    refine h_aald26 (i := (5000 + j)) hX i rfl (by rw [mN_o (by have := hS.1; omega)]; omega) (by rw [mN_o (by have := hS.1; omega)]; decide) (j := (6000 + 200 * j + i)) (mR_o (by have := hS.1; omega) (by omega)) (m_o hS hj) (mK_o (by have := hS.1; omega)) dX8_punch_26 ?_
    refine g_iload_n hX 3 rfl dX8_punch_27 rfl ?_
    refine h_zald (i := (6000 + 200 * j + i)) hX k rfl (by rw [mN_r (by have := hS.1; omega) (by omega)]; omega) (by rw [mN_r (by have := hS.1; omega) (by omega)]; decide) (m_r hS hj (by omega)) (mK_r (by have := hS.1; omega) (by omega)) dX8_punch_28 ?_
    refine g_eqi (y := (M (6000 + 200 * j + i) k)) (up2_n (Or.inl (by omega))) ?_
    refine g_istore hX [(5, .int (M (6000 + 200 * j + i) k)), (0, .ref (ad 0)), (1, .int (nI j)), (2, .int (nI i)), (3, .int (nI k)), (4, .int q)] rfl dX8_punch_29 (by decide) ?_
    refine g_aload_n hX 1 rfl dX8_punch_31 rfl ?_
    refine g_getRs (i := 0) hX 12 0 q_inX8 (m_lo (by decide)) rfl (by decide) rfl (by decide) rfl q_w1 rfl (j := 1) rfl dX8_punch_32 ?_
    refine g_iload_n hX 2 rfl dX8_punch_35 rfl ?_
    refine b_callQ_F hX hM (b := 1) [.int (nI j)] (m_lo (by decide)) (pf_obj rfl (by decide)) rfl (q_get1 S hS (fun _ h => h) (fun _ _ => rfl) ((up2_n (Or.inl (by decide))).trans hw1) j hj) gX8_punch_Jx4a65c_get_915e3_f81Jx4a65c (by decide +kernel) rfl rfl rfl hdF_get ⟨Nat.le_of_ble_eq_true rfl, Nat.le_of_ble_eq_true rfl⟩ ⟨Nat.le_of_ble_eq_true rfl, Nat.le_of_ble_eq_true rfl⟩ rfl (Nat.le_of_ble_eq_true rfl) dX8_punch_36 (fun r9 ad9 L9 f9 hp9 => ?_)
    obtain ⟨he9, hr9⟩ := hp9
    cases he9
    subst hr9
    refine b_cast26 (i := (5000 + j)) hX (m_o hS hj) (mK_o (by have := hS.1; omega)) q_w2 dX8_punch_41 ?_
    refine g_iload_n hX 3 rfl dX8_punch_44 rfl ?_
    refine h_aald26 (i := (5000 + j)) hX i rfl (by rw [mN_o (by have := hS.1; omega)]; omega) (by rw [mN_o (by have := hS.1; omega)]; decide) (j := (6000 + 200 * j + i)) (mR_o (by have := hS.1; omega) (by omega)) (m_o hS hj) (mK_o (by have := hS.1; omega)) dX8_punch_45 ?_
    refine g_iload_n hX 4 rfl dX8_punch_46 rfl ?_
    refine g_iload hX 5 rfl dX8_punch_47 ?_
    refine h_zast (i := (6000 + 200 * j + i)) hX k rfl (by rw [mN_r (by have := hS.1; omega) (by omega)]; omega) (by rw [mN_r (by have := hS.1; omega) (by omega)]; decide) hq (m_r hS hj (by omega)) (mK_r (by have := hS.1; omega) (by omega)) dX8_punch_49 ?_
    refine g_iload hX 0 rfl dX8_punch_50 ?_
    refine b_zret hX (nz_m (hbit j i k hj hi hk)) hE dX8_punch_52 (by omega) (by omega) ?_
    exact ⟨by rw [if_pos c_7, c_7, nI_clamp (n := j) (by have := hS.1; omega), nI_clamp (n := i) (by omega), nI_clamp (n := k) (by omega)], by rw [if_pos c_7, nI_clamp (n := j) (by have := hS.1; omega), nI_clamp (n := i) (by omega), nI_clamp (n := k) (by omega)]⟩
  · have c_7 := z00 c_7
    refine g_iconst hX (0) dX8_punch_10 rfl ?_
    refine b_zret hX rfl hE dX8_punch_11 (by omega) (by omega) ?_
    exact ⟨by rw [if_neg c_7], if_neg c_7⟩
