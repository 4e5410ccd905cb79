abbrev rm_X8_lengthOf : Room := { frames := 3, cells := 0, slots := 0, locals := 64 }
theorem hd_X8_lengthOf : yX8_lengthOf.cls = RX8 ∧ yX8_lengthOf.cls ≠ "java/lang/invoke/MethodHandle" ∧ yX8_lengthOf.cls ≠ "java/lang/invoke/VarHandle" ∧ (parseMethodDescriptor yX8_lengthOf.desc).map (fun d => d.parameters.length) = some 1 := by decide +kernel
set_option maxRecDepth 100000 in
set_option maxHeartbeats 4000000 in
theorem k_X8_lengthOf {D : va_G} {dT : Nat → ClassId} {Z : ZT} {ad : Nat → Nat} (M : Nat → Nat → Int32) (S : SZ) (hS : WS S) (hw1 : M 1 2 = nI S.1) (hw2 : M 2 2 = nI S.2.1) (hw3 : M 3 2 = nI S.2.2.1) (j : Nat) (hj : j < S.1) : ∀ l8, BI l8 yX8_lengthOf wsX8_lengthOf rm_X8_lengthOf D (tyl dT) Z ad (mL S) (pf dT mK mN M (mR S) ad) [.ref (ad 0), .int (nI j)] 0 0 (fun r u => u = (ad, mL S, mf dT ad M S) ∧ nI (lenM M j 200) = r) := by
  intro l9
  refine bi_of (own := RX8) (cc := cX8_lengthOf) (maxL := 5) (some .int) [(0, .ref (ad 0)), (1, .int (nI j))] (by decide) rfl rfl rfl (Nat.le_of_ble_eq_true rfl) ?_
  intro X hX hE hN hM
  have q_w1 : Cond.fieldLink RX8 10 "PerforatumModel" "rolls" "Ljava/util/List;" ∈ wsX8_lengthOf := List.mem_of_getElem? (i := 1) rfl
  have q_inX8 : ∀ w ∈ wsX80, w ∈ wsX8_lengthOf := by decide +kernel
  have q_w2 : Cond.classLink RX8 68 "[[Z" ∈ wsX8_lengthOf := List.mem_of_getElem? (i := 2) rfl
  refine g_iconst hX (0) dX8_lengthOf_0 rfl ?_
  refine g_istore_n hX [(2, .int 0), (0, .ref (ad 0)), (1, .int (nI j))] rfl dX8_lengthOf_1 rfl (by decide) ?_
  refine g_iconst hX (0) dX8_lengthOf_2 rfl ?_
  refine g_istore_n hX [(3, .int 0), (2, .int 0), (0, .ref (ad 0)), (1, .int (nI j))] rfl dX8_lengthOf_3 rfl (by decide) ?_
  have lp_4 : ∀ (n9 : Nat) (r : Nat) (q : Nat), 200 - r < n9 → (r ≤ 200) → (q = lenM M j r) → GG X D ad (mL S) (pf dT mK mN M (mR S) ad) [(3, .int (nI r)), (2, .int (nI q)), (0, .ref (ad 0)), (1, .int (nI j))] (0) (0) 4 [] := by
    intro n9
    induction n9 with
    | zero => intro r q h9; exact absurd h9 (Nat.not_lt_zero _)
    | succ n9 ih9 =>
      intro r q h9 hr hq
      have ih_4 := ih9
      refine g_iload_n hX 0 rfl dX8_lengthOf_4 rfl ?_
      refine g_sipush hX (200) dX8_lengthOf_5 rfl ?_
      refine g_icmp_ge (tgt := 62) hX dX8_lengthOf_8 (by decide) (fun c_8 => ?_) (fun c_8 => ?_)
      · have c_8 : 200 ≤ r := (nI_leI (a := 200) (b := r) (by omega) (by omega)).mp c_8
        refine g_iload_n hX 1 rfl dX8_lengthOf_62 rfl ?_
        refine b_iret hX hE dX8_lengthOf_63 (by omega) (by omega) ?_
        exact ⟨rfl, by rw [hq, show r = 200 by omega]⟩
      · have c_8 : ¬ 200 ≤ r := fun h9 => c_8 ((nI_leI (a := 200) (b := r) (by omega) (by omega)).mpr h9)
        refine g_iconst hX (0) dX8_lengthOf_11 rfl ?_
        refine g_istore hX [(4, .int 0), (3, .int (nI r)), (2, .int (nI q)), (0, .ref (ad 0)), (1, .int (nI j))] rfl dX8_lengthOf_12 (by decide) ?_
        have lp_14 : ∀ (n9 : Nat) (t : Nat) (p : Nat), 16 - t < n9 → (t ≤ 16) → (p = lenR M j r (lenM M j r) t) → GG X D ad (mL S) (pf dT mK mN M (mR S) ad) [(4, .int (nI t)), (3, .int (nI r)), (2, .int (nI p)), (0, .ref (ad 0)), (1, .int (nI j))] (0) (0) 14 [] := by
          intro n9
          induction n9 with
          | zero => intro t p h9; exact absurd h9 (Nat.not_lt_zero _)
          | succ n9 ih9 =>
            intro t p h9 ht hp
            have ih_14 := ih9
            refine g_iload hX 0 rfl dX8_lengthOf_14 ?_
            refine g_bipush hX (16) dX8_lengthOf_16 rfl ?_
            refine g_icmp_ge (tgt := 56) hX dX8_lengthOf_18 (by decide) (fun c_18 => ?_) (fun c_18 => ?_)
            · have c_18 : 16 ≤ t := (nI_leI (a := 16) (b := t) (by omega) (by omega)).mp c_18
              refine g_iinc hX (nI (r + 1)) [(3, .int (nI (r + 1))), (4, .int (nI t)), (2, .int (nI p)), (0, .ref (ad 0)), (1, .int (nI j))] (k := 1) rfl (g_inc r) rfl dX8_lengthOf_56 (by decide) ?_
              refine g_goto (tgt := 4) hX dX8_lengthOf_59 (by decide) ?_
              refine g_lv [0, 2, 3, 4] rfl ?_
              exact ih_4 (r + 1) p (by omega) (by omega) (by rw [hp, show t = 16 by omega]; rfl)
            · have c_18 : ¬ 16 ≤ t := fun h9 => c_18 ((nI_leI (a := 16) (b := t) (by omega) (by omega)).mpr h9)
              refine g_aload_n hX 3 rfl dX8_lengthOf_21 rfl ?_
              refine g_getRs (i := 0) hX 12 0 q_inX8 (m_lo (by decide)) rfl (by decide) rfl (by decide) rfl q_w1 rfl (j := 1) rfl dX8_lengthOf_22 ?_
              refine g_iload_n hX 4 rfl dX8_lengthOf_25 rfl ?_
              refine b_callQ_F hX hM (b := 1) [.int (nI j)] (m_lo (by decide)) (pf_obj rfl (by decide)) rfl (q_get1 S hS (fun _ h => h) (fun _ _ => rfl) hw1 j hj) gX8_lengthOf_Jx4a65c_get_915e3_f81Jx4a65c (by decide +kernel) rfl rfl rfl hdF_get ⟨Nat.le_of_ble_eq_true rfl, Nat.le_of_ble_eq_true rfl⟩ ⟨Nat.le_of_ble_eq_true rfl, Nat.le_of_ble_eq_true rfl⟩ rfl (Nat.le_of_ble_eq_true rfl) dX8_lengthOf_26 (fun r9 ad9 L9 f9 hp9 => ?_)
              obtain ⟨he9, hr9⟩ := hp9
              cases he9
              subst hr9
              refine b_cast26 (i := (5000 + j)) hX (m_o hS hj) (mK_o (by have := hS.1; omega)) q_w2 dX8_lengthOf_31 ?_
              refine g_iload_n hX 1 rfl dX8_lengthOf_34 rfl ?_
              refine h_aald26 (i := (5000 + j)) hX r rfl (by rw [mN_o (by have := hS.1; omega)]; omega) (by rw [mN_o (by have := hS.1; omega)]; decide) (j := (6000 + 200 * j + r)) (mR_o (by have := hS.1; omega) (by omega)) (m_o hS hj) (mK_o (by have := hS.1; omega)) dX8_lengthOf_35 ?_
              refine g_iload hX 0 rfl dX8_lengthOf_36 ?_
              refine h_zald (i := (6000 + 200 * j + r)) hX t rfl (by rw [mN_r (by have := hS.1; omega) (by omega)]; omega) (by rw [mN_r (by have := hS.1; omega) (by omega)]; decide) (m_r hS hj (by omega)) (mK_r (by have := hS.1; omega) (by omega)) dX8_lengthOf_38 ?_
              refine g_if_eq (tgt := 48) hX dX8_lengthOf_39 (by decide) (fun c_39 => ?_) (fun c_39 => ?_)
              · refine g_iload_n hX 2 rfl dX8_lengthOf_48 rfl ?_
                refine g_istore_n hX [(2, .int (nI p)), (4, .int (nI t)), (3, .int (nI r)), (0, .ref (ad 0)), (1, .int (nI j))] rfl dX8_lengthOf_49 rfl (by decide) ?_
                refine g_iinc hX (nI (t + 1)) [(4, .int (nI (t + 1))), (2, .int (nI p)), (3, .int (nI r)), (0, .ref (ad 0)), (1, .int (nI j))] (k := 1) rfl (g_inc t) rfl dX8_lengthOf_50 (by decide) ?_
                refine g_goto (tgt := 14) hX dX8_lengthOf_53 (by decide) ?_
                refine g_lv [0, 2, 1, 3, 4] rfl ?_
                exact ih_14 (t + 1) p (by omega) (by omega) (by rw [lenR, if_pos c_39]; exact hp)
              · refine g_iload_n hX 1 rfl dX8_lengthOf_42 rfl ?_
                refine g_iconst hX (1) dX8_lengthOf_43 rfl ?_
                refine g_iadd hX dX8_lengthOf_44 ?_
                refine g_eqi (y := nI (r + 1)) (nI_1 r) ?_
                refine g_goto (tgt := 49) hX dX8_lengthOf_45 (by decide) ?_
                refine g_istore_n hX [(2, .int (nI (r + 1))), (4, .int (nI t)), (3, .int (nI r)), (0, .ref (ad 0)), (1, .int (nI j))] rfl dX8_lengthOf_49 rfl (by decide) ?_
                refine g_iinc hX (nI (t + 1)) [(4, .int (nI (t + 1))), (2, .int (nI (r + 1))), (3, .int (nI r)), (0, .ref (ad 0)), (1, .int (nI j))] (k := 1) rfl (g_inc t) rfl dX8_lengthOf_50 (by decide) ?_
                refine g_goto (tgt := 14) hX dX8_lengthOf_53 (by decide) ?_
                refine g_lv [0, 2, 1, 3, 4] rfl ?_
                exact ih_14 (t + 1) (r + 1) (by omega) (by omega) (by rw [lenR, if_neg c_39])
        refine g_lv [0, 1, 2, 3, 4] rfl ?_
        exact lp_14 _ 0 q (Nat.lt_succ_self _) (by omega) (by rw [hq]; rfl)
  refine g_lv [0, 1, 2, 3] rfl ?_
  exact lp_4 _ 0 0 (Nat.lt_succ_self _) (by omega) rfl
abbrev rm_X8_holesAt : Room := { frames := 3, cells := 0, slots := 0, locals := 64 }
theorem hd_X8_holesAt : yX8_holesAt.cls = RX8 ∧ yX8_holesAt.cls ≠ "java/lang/invoke/MethodHandle" ∧ yX8_holesAt.cls ≠ "java/lang/invoke/VarHandle" ∧ (parseMethodDescriptor yX8_holesAt.desc).map (fun d => d.parameters.length) = some 2 := by decide +kernel
set_option maxRecDepth 100000 in
set_option maxHeartbeats 4000000 in
theorem k_X8_holesAt {D : va_G} {dT : Nat → ClassId} {Z : ZT} {ad : Nat → Nat} (M : Nat → Nat → Int32) (S : SZ) (hS : WS S) (hw1 : M 1 2 = nI S.1) (hw2 : M 2 2 = nI S.2.1) (hw3 : M 3 2 = nI S.2.2.1) (j t : Nat) (hj : j < S.1) (ht : t < 16) : ∀ l8, BI l8 yX8_holesAt wsX8_holesAt rm_X8_holesAt D (tyl dT) Z ad (mL S) (pf dT mK mN M (mR S) ad) [.ref (ad 0), .int (nI j), .int (nI t)] 0 0 (fun r u => u = (ad, mL S, mf dT ad M S) ∧ nI (hoM M j t 200) = r) := by
  intro l9
  refine bi_of (own := RX8) (cc := cX8_holesAt) (maxL := 5) (some .int) [(0, .ref (ad 0)), (1, .int (nI j)), (2, .int (nI t))] (by decide) rfl rfl rfl (Nat.le_of_ble_eq_true rfl) ?_
  intro X hX hE hN hM
  have q_w1 : Cond.fieldLink RX8 10 "PerforatumModel" "rolls" "Ljava/util/List;" ∈ wsX8_holesAt := List.mem_of_getElem? (i := 1) rfl
  have q_inX8 : ∀ w ∈ wsX80, w ∈ wsX8_holesAt := by decide +kernel
  have q_w2 : Cond.classLink RX8 68 "[[Z" ∈ wsX8_holesAt := List.mem_of_getElem? (i := 2) rfl
  refine g_iconst hX (0) dX8_holesAt_0 rfl ?_
  refine g_istore_n hX [(3, .int 0), (0, .ref (ad 0)), (1, .int (nI j)), (2, .int (nI t))] rfl dX8_holesAt_1 rfl (by decide) ?_
  refine g_iconst hX (0) dX8_holesAt_2 rfl ?_
  refine g_istore hX [(4, .int 0), (3, .int 0), (0, .ref (ad 0)), (1, .int (nI j)), (2, .int (nI t))] rfl dX8_holesAt_3 (by decide) ?_
  have lp_5 : ∀ (n9 : Nat) (r : Nat) (q : Nat), 200 - r < n9 → (r ≤ 200) → (q = hoM M j t r) → GG X D ad (mL S) (pf dT mK mN M (mR S) ad) [(4, .int (nI r)), (3, .int (nI q)), (0, .ref (ad 0)), (1, .int (nI j)), (2, .int (nI t))] (0) (0) 5 [] := by
    intro n9
    induction n9 with
    | zero => intro r q h9; exact absurd h9 (Nat.not_lt_zero _)
    | succ n9 ih9 =>
      intro r q h9 hr hq
      have ih_5 := ih9
      refine g_iload hX 0 rfl dX8_holesAt_5 ?_
      refine g_sipush hX (200) dX8_holesAt_7 rfl ?_
      refine g_icmp_ge (tgt := 48) hX dX8_holesAt_10 (by decide) (fun c_10 => ?_) (fun c_10 => ?_)
      · have c_10 : 200 ≤ r := (nI_leI (a := 200) (b := r) (by omega) (by omega)).mp c_10
        refine g_iload_n hX 1 rfl dX8_holesAt_48 rfl ?_
        refine b_iret hX hE dX8_holesAt_49 (by omega) (by omega) ?_
        exact ⟨rfl, by rw [hq, show r = 200 by omega]⟩
      · have c_10 : ¬ 200 ≤ r := fun h9 => c_10 ((nI_leI (a := 200) (b := r) (by omega) (by omega)).mpr h9)
        refine g_iload_n hX 1 rfl dX8_holesAt_13 rfl ?_
        refine g_aload_n hX 2 rfl dX8_holesAt_14 rfl ?_
        refine g_getRs (i := 0) hX 12 0 q_inX8 (m_lo (by decide)) rfl (by decide) rfl (by decide) rfl q_w1 rfl (j := 1) rfl dX8_holesAt_15 ?_
        refine g_iload_n hX 3 rfl dX8_holesAt_18 rfl ?_
        refine b_callQ_F hX hM (b := 1) [.int (nI j)] (m_lo (by decide)) (pf_obj rfl (by decide)) rfl (q_get1 S hS (fun _ h => h) (fun _ _ => rfl) hw1 j hj) gX8_holesAt_Jx4a65c_get_915e3_f81Jx4a65c (by decide +kernel) rfl rfl rfl hdF_get ⟨Nat.le_of_ble_eq_true rfl, Nat.le_of_ble_eq_true rfl⟩ ⟨Nat.le_of_ble_eq_true rfl, Nat.le_of_ble_eq_true rfl⟩ rfl (Nat.le_of_ble_eq_true rfl) dX8_holesAt_19 (fun r9 ad9 L9 f9 hp9 => ?_)
        obtain ⟨he9, hr9⟩ := hp9
        cases he9
        subst hr9
        refine b_cast26 (i := (5000 + j)) hX (m_o hS hj) (mK_o (by have := hS.1; omega)) q_w2 dX8_holesAt_24 ?_
        refine g_iload hX 0 rfl dX8_holesAt_27 ?_
        refine h_aald26 (i := (5000 + j)) hX r rfl (by rw [mN_o (by have := hS.1; omega)]; omega) (by rw [mN_o (by have := hS.1; omega)]; decide) (j := (6000 + 200 * j + r)) (mR_o (by have := hS.1; omega) (by omega)) (m_o hS hj) (mK_o (by have := hS.1; omega)) dX8_holesAt_29 ?_
        refine g_iload_n hX 4 rfl dX8_holesAt_30 rfl ?_
        refine h_zald (i := (6000 + 200 * j + r)) hX t rfl (by rw [mN_r (by have := hS.1; omega) (by omega)]; omega) (by rw [mN_r (by have := hS.1; omega) (by omega)]; decide) (m_r hS hj (by omega)) (mK_r (by have := hS.1; omega) (by omega)) dX8_holesAt_31 ?_
        refine g_if_eq (tgt := 39) hX dX8_holesAt_32 (by decide) (fun c_32 => ?_) (fun c_32 => ?_)
        · refine g_iconst hX (0) dX8_holesAt_39 rfl ?_
          refine g_iadd hX dX8_holesAt_40 ?_
          refine g_eqi (y := nI (q)) (Int32.add_zero _) ?_
          refine g_istore_n hX [(3, .int (nI (q))), (4, .int (nI r)), (0, .ref (ad 0)), (1, .int (nI j)), (2, .int (nI t))] rfl dX8_holesAt_41 rfl (by decide) ?_
          refine g_iinc hX (nI (r + 1)) [(4, .int (nI (r + 1))), (3, .int (nI (q))), (0, .ref (ad 0)), (1, .int (nI j)), (2, .int (nI t))] (k := 1) rfl (g_inc r) rfl dX8_holesAt_42 (by decide) ?_
          refine g_goto (tgt := 5) hX dX8_holesAt_45 (by decide) ?_
          refine g_lv [0, 1, 2, 3, 4] rfl ?_
          exact ih_5 (r + 1) (q) (by omega) (by omega) (by rw [hoM, if_pos c_32]; exact hq)
        · refine g_iconst hX (1) dX8_holesAt_35 rfl ?_
          refine g_goto (tgt := 40) hX dX8_holesAt_36 (by decide) ?_
          refine g_iadd hX dX8_holesAt_40 ?_
          refine g_eqi (y := nI (q + 1)) (nI_1 q) ?_
          refine g_istore_n hX [(3, .int (nI (q + 1))), (4, .int (nI r)), (0, .ref (ad 0)), (1, .int (nI j)), (2, .int (nI t))] rfl dX8_holesAt_41 rfl (by decide) ?_
          refine g_iinc hX (nI (r + 1)) [(4, .int (nI (r + 1))), (3, .int (nI (q + 1))), (0, .ref (ad 0)), (1, .int (nI j)), (2, .int (nI t))] (k := 1) rfl (g_inc r) rfl dX8_holesAt_42 (by decide) ?_
          refine g_goto (tgt := 5) hX dX8_holesAt_45 (by decide) ?_
          refine g_lv [0, 1, 2, 3, 4] rfl ?_
          exact ih_5 (r + 1) (q + 1) (by omega) (by omega) (by rw [hoM, if_neg c_32, hq])
  refine g_lv [0, 1, 2, 3, 4] rfl ?_
  exact lp_5 _ 0 0 (Nat.lt_succ_self _) (by omega) rfl
abbrev rm_X8_apart : Room := { frames := 3, cells := 0, slots := 0, locals := 64 }
theorem hd_X8_apart : yX8_apart.cls = RX8 ∧ yX8_apart.cls ≠ "java/lang/invoke/MethodHandle" ∧ yX8_apart.cls ≠ "java/lang/invoke/VarHandle" ∧ (parseMethodDescriptor yX8_apart.desc).map (fun d => d.parameters.length) = some 2 := by decide +kernel
set_option maxRecDepth 100000 in
set_option maxHeartbeats 4000000 in
theorem k_X8_apart {D : va_G} {dT : Nat → ClassId} {Z : ZT} {ad : Nat → Nat} (M : Nat → Nat → Int32) (S : SZ) (hS : WS S) (hw1 : M 1 2 = nI S.1) (hw2 : M 2 2 = nI S.2.1) (hw3 : M 3 2 = nI S.2.2.1) (i j : Nat) (hi : i < S.1) (hj : j < S.1) : ∀ l8, BI l8 yX8_apart wsX8_apart rm_X8_apart D (tyl dT) Z ad (mL S) (pf dT mK mN M (mR S) ad) [.ref (ad 0), .int (nI i), .int (nI j)] 0 0 (fun r u => u = (ad, mL S, mf dT ad M S) ∧ nI (apM M i j 200) = r) := by
  intro l9
  refine bi_of (own := RX8) (cc := cX8_apart) (maxL := 6) (some .int) [(0, .ref (ad 0)), (1, .int (nI i)), (2, .int (nI j))] (by decide) rfl rfl rfl (Nat.le_of_ble_eq_true rfl) ?_
  intro X hX hE hN hM
  have q_w1 : Cond.fieldLink RX8 10 "PerforatumModel" "rolls" "Ljava/util/List;" ∈ wsX8_apart := List.mem_of_getElem? (i := 1) rfl
  have q_inX8 : ∀ w ∈ wsX80, w ∈ wsX8_apart := by decide +kernel
  have q_w2 : Cond.classLink RX8 68 "[[Z" ∈ wsX8_apart := List.mem_of_getElem? (i := 2) rfl
  refine g_iconst hX (0) dX8_apart_0 rfl ?_
  refine g_istore_n hX [(3, .int 0), (0, .ref (ad 0)), (1, .int (nI i)), (2, .int (nI j))] rfl dX8_apart_1 rfl (by decide) ?_
  refine g_iconst hX (0) dX8_apart_2 rfl ?_
  refine g_istore hX [(4, .int 0), (3, .int 0), (0, .ref (ad 0)), (1, .int (nI i)), (2, .int (nI j))] rfl dX8_apart_3 (by decide) ?_
  have lp_5 : ∀ (n9 : Nat) (r : Nat) (q : Nat), 200 - r < n9 → (r ≤ 200) → (q = apM M i j r) → GG X D ad (mL S) (pf dT mK mN M (mR S) ad) [(4, .int (nI r)), (3, .int (nI q)), (0, .ref (ad 0)), (1, .int (nI i)), (2, .int (nI j))] (0) (0) 5 [] := by
    intro n9
    induction n9 with
    | zero => intro r q h9; exact absurd h9 (Nat.not_lt_zero _)
    | succ n9 ih9 =>
      intro r q h9 hr hq
      have ih_5 := ih9
      refine g_iload hX 0 rfl dX8_apart_5 ?_
      refine g_sipush hX (200) dX8_apart_7 rfl ?_
      refine g_icmp_ge (tgt := 84) hX dX8_apart_10 (by decide) (fun c_10 => ?_) (fun c_10 => ?_)
      · have c_10 : 200 ≤ r := (nI_leI (a := 200) (b := r) (by omega) (by omega)).mp c_10
        refine g_iload_n hX 1 rfl dX8_apart_84 rfl ?_
        refine b_iret hX hE dX8_apart_85 (by omega) (by omega) ?_
        exact ⟨rfl, by rw [hq, show r = 200 by omega]⟩
      · have c_10 : ¬ 200 ≤ r := fun h9 => c_10 ((nI_leI (a := 200) (b := r) (by omega) (by omega)).mpr h9)
        refine g_iconst hX (0) dX8_apart_13 rfl ?_
        refine g_istore hX [(5, .int 0), (4, .int (nI r)), (3, .int (nI q)), (0, .ref (ad 0)), (1, .int (nI i)), (2, .int (nI j))] rfl dX8_apart_14 (by decide) ?_
        have lp_16 : ∀ (n9 : Nat) (t : Nat) (p : Nat), 16 - t < n9 → (t ≤ 16) → (p = apR M i j r (apM M i j r) t) → GG X D ad (mL S) (pf dT mK mN M (mR S) ad) [(5, .int (nI t)), (4, .int (nI r)), (3, .int (nI p)), (0, .ref (ad 0)), (1, .int (nI i)), (2, .int (nI j))] (0) (0) 16 [] := by
          intro n9
          induction n9 with
          | zero => intro t p h9; exact absurd h9 (Nat.not_lt_zero _)
          | succ n9 ih9 =>
            intro t p h9 ht hp
            have ih_16 := ih9
            refine g_iload hX 0 rfl dX8_apart_16 ?_
            refine g_bipush hX (16) dX8_apart_18 rfl ?_
            refine g_icmp_ge (tgt := 78) hX dX8_apart_20 (by decide) (fun c_20 => ?_) (fun c_20 => ?_)
            · have c_20 : 16 ≤ t := (nI_leI (a := 16) (b := t) (by omega) (by omega)).mp c_20
              refine g_iinc hX (nI (r + 1)) [(4, .int (nI (r + 1))), (5, .int (nI t)), (3, .int (nI p)), (0, .ref (ad 0)), (1, .int (nI i)), (2, .int (nI j))] (k := 1) rfl (g_inc r) rfl dX8_apart_78 (by decide) ?_
              refine g_goto (tgt := 5) hX dX8_apart_81 (by decide) ?_
              refine g_lv [0, 2, 3, 4, 5] rfl ?_
              exact ih_5 (r + 1) p (by omega) (by omega) (by rw [hp, show t = 16 by omega]; rfl)
            · have c_20 : ¬ 16 ≤ t := fun h9 => c_20 ((nI_leI (a := 16) (b := t) (by omega) (by omega)).mpr h9)
              refine g_iload_n hX 2 rfl dX8_apart_23 rfl ?_
              refine g_aload_n hX 3 rfl dX8_apart_24 rfl ?_
              refine g_getRs (i := 0) hX 12 0 q_inX8 (m_lo (by decide)) rfl (by decide) rfl (by decide) rfl q_w1 rfl (j := 1) rfl dX8_apart_25 ?_
              refine g_iload_n hX 4 rfl dX8_apart_28 rfl ?_
              refine b_callQ_F hX hM (b := 1) [.int (nI i)] (m_lo (by decide)) (pf_obj rfl (by decide)) rfl (q_get1 S hS (fun _ h => h) (fun _ _ => rfl) hw1 i hi) gX8_apart_Jx4a65c_get_915e3_f81Jx4a65c (by decide +kernel) rfl rfl rfl hdF_get ⟨Nat.le_of_ble_eq_true rfl, Nat.le_of_ble_eq_true rfl⟩ ⟨Nat.le_of_ble_eq_true rfl, Nat.le_of_ble_eq_true rfl⟩ rfl (Nat.le_of_ble_eq_true rfl) dX8_apart_29 (fun r9 ad9 L9 f9 hp9 => ?_)
              obtain ⟨he9, hr9⟩ := hp9
              cases he9
              subst hr9
              refine b_cast26 (i := (5000 + i)) hX (m_o hS hi) (mK_o (by have := hS.1; omega)) q_w2 dX8_apart_34 ?_
              refine g_iload hX 1 rfl dX8_apart_37 ?_
              refine h_aald26 (i := (5000 + i)) hX r rfl (by rw [mN_o (by have := hS.1; omega)]; omega) (by rw [mN_o (by have := hS.1; omega)]; decide) (j := (6000 + 200 * i + r)) (mR_o (by have := hS.1; omega) (by omega)) (m_o hS hi) (mK_o (by have := hS.1; omega)) dX8_apart_39 ?_
              refine g_iload hX 0 rfl dX8_apart_40 ?_
              refine h_zald (i := (6000 + 200 * i + r)) hX t rfl (by rw [mN_r (by have := hS.1; omega) (by omega)]; omega) (by rw [mN_r (by have := hS.1; omega) (by omega)]; decide) (m_r hS hi (by omega)) (mK_r (by have := hS.1; omega) (by omega)) dX8_apart_42 ?_
              refine g_aload_n hX 3 rfl dX8_apart_43 rfl ?_
              refine g_getRs (i := 0) hX 12 0 q_inX8 (m_lo (by decide)) rfl (by decide) rfl (by decide) rfl q_w1 rfl (j := 1) rfl dX8_apart_44 ?_
              refine g_iload_n hX 5 rfl dX8_apart_47 rfl ?_
              refine b_callQ_F hX hM (b := 1) [.int (nI j)] (m_lo (by decide)) (pf_obj rfl (by decide)) rfl (q_get1 S hS (fun _ h => h) (fun _ _ => rfl) hw1 j hj) gX8_apart_Jx4a65c_get_915e3_f81Jx4a65c (by decide +kernel) rfl rfl rfl hdF_get ⟨Nat.le_of_ble_eq_true rfl, Nat.le_of_ble_eq_true rfl⟩ ⟨Nat.le_of_ble_eq_true rfl, Nat.le_of_ble_eq_true rfl⟩ rfl (Nat.le_of_ble_eq_true rfl) dX8_apart_48 (fun r9 ad9 L9 f9 hp9 => ?_)
              obtain ⟨he9, hr9⟩ := hp9
              cases he9
              subst hr9
              refine b_cast26 (i := (5000 + j)) hX (m_o hS hj) (mK_o (by have := hS.1; omega)) q_w2 dX8_apart_53 ?_
              refine g_iload hX 1 rfl dX8_apart_56 ?_
              refine h_aald26 (i := (5000 + j)) hX r rfl (by rw [mN_o (by have := hS.1; omega)]; omega) (by rw [mN_o (by have := hS.1; omega)]; decide) (j := (6000 + 200 * j + r)) (mR_o (by have := hS.1; omega) (by omega)) (m_o hS hj) (mK_o (by have := hS.1; omega)) dX8_apart_58 ?_
              refine g_iload hX 0 rfl dX8_apart_59 ?_
              refine h_zald (i := (6000 + 200 * j + r)) hX t rfl (by rw [mN_r (by have := hS.1; omega) (by omega)]; omega) (by rw [mN_r (by have := hS.1; omega) (by omega)]; decide) (m_r hS hj (by omega)) (mK_r (by have := hS.1; omega) (by omega)) dX8_apart_61 ?_
              refine g_icmp_eq (tgt := 69) hX dX8_apart_62 (by decide) (fun c_62 => ?_) (fun c_62 => ?_)
              · refine g_iconst hX (0) dX8_apart_69 rfl ?_
                refine g_iadd hX dX8_apart_70 ?_
                refine g_eqi (y := nI (p)) (Int32.add_zero _) ?_
                refine g_istore_n hX [(3, .int (nI (p))), (5, .int (nI t)), (4, .int (nI r)), (0, .ref (ad 0)), (1, .int (nI i)), (2, .int (nI j))] rfl dX8_apart_71 rfl (by decide) ?_
                refine g_iinc hX (nI (t + 1)) [(5, .int (nI (t + 1))), (3, .int (nI (p))), (4, .int (nI r)), (0, .ref (ad 0)), (1, .int (nI i)), (2, .int (nI j))] (k := 1) rfl (g_inc t) rfl dX8_apart_72 (by decide) ?_
                refine g_goto (tgt := 16) hX dX8_apart_75 (by decide) ?_
                refine g_lv [0, 2, 1, 3, 4, 5] rfl ?_
                exact ih_16 (t + 1) (p) (by omega) (by omega) (by rw [apR, if_pos c_62]; exact hp)
              · refine g_iconst hX (1) dX8_apart_65 rfl ?_
                refine g_goto (tgt := 70) hX dX8_apart_66 (by decide) ?_
                refine g_iadd hX dX8_apart_70 ?_
                refine g_eqi (y := nI (p + 1)) (nI_1 p) ?_
                refine g_istore_n hX [(3, .int (nI (p + 1))), (5, .int (nI t)), (4, .int (nI r)), (0, .ref (ad 0)), (1, .int (nI i)), (2, .int (nI j))] rfl dX8_apart_71 rfl (by decide) ?_
                refine g_iinc hX (nI (t + 1)) [(5, .int (nI (t + 1))), (3, .int (nI (p + 1))), (4, .int (nI r)), (0, .ref (ad 0)), (1, .int (nI i)), (2, .int (nI j))] (k := 1) rfl (g_inc t) rfl dX8_apart_72 (by decide) ?_
                refine g_goto (tgt := 16) hX dX8_apart_75 (by decide) ?_
                refine g_lv [0, 2, 1, 3, 4, 5] rfl ?_
                exact ih_16 (t + 1) (p + 1) (by omega) (by omega) (by rw [apR, if_neg c_62, hp])
        refine g_lv [0, 1, 2, 3, 4, 5] rfl ?_
        exact lp_16 _ 0 q (Nat.lt_succ_self _) (by omega) (by rw [hq]; rfl)
  refine g_lv [0, 1, 2, 3, 4] rfl ?_
  exact lp_5 _ 0 0 (Nat.lt_succ_self _) (by omega) rfl
abbrev rm_X8_row : Room := { frames := 2, cells := 0, slots := 0, locals := 42 }
theorem hd_X8_row : yX8_row.cls = RX8 ∧ yX8_row.cls ≠ "java/lang/invoke/MethodHandle" ∧ yX8_row.cls ≠ "java/lang/invoke/VarHandle" ∧ (parseMethodDescriptor yX8_row.desc).map (fun d => d.parameters.length) = some 0 := by decide +kernel
set_option maxRecDepth 100000 in
set_option maxHeartbeats 4000000 in
theorem k_X8_row {D : va_G} {dT : Nat → ClassId} {Z : ZT} {ad : Nat → Nat} (M : Nat → Nat → Int32) (S : SZ) (hS : WS S) (hw1 : M 1 2 = nI S.1) (hw2 : M 2 2 = nI S.2.1) (hw3 : M 3 2 = nI S.2.2.1) : ∀ l8, BI l8 yX8_row wsX8_row rm_X8_row D (tyl dT) Z ad (mL S) (pf dT mK mN M (mR S) ad) [.ref (ad 0)] 0 0 (fun r u => u = (ad, mL S, mf dT ad (up2 M 0 15 (if M 0 6 < 0 then 1 else 0)) S) ∧ (if M 0 6 < 0 then 0 else M 0 7) = r) := by
  intro l9
  refine bi_of (own := RX8) (cc := cX8_row) (maxL := 1) (some .int) [(0, .ref (ad 0))] (by decide) rfl rfl rfl (Nat.le_of_ble_eq_true rfl) ?_
  intro X hX hE hN hM
  have q_w1 : Cond.fieldLink RX8 158 "PerforatumModel" "row" "I" ∈ wsX8_row := List.mem_of_getElem? (i := 1) rfl
  have q_inX8 : ∀ w ∈ wsX80, w ∈ wsX8_row := by decide +kernel
  refine g_aload_n hX 0 rfl dX8_row_0 rfl ?_
  refine b_callI_V hX hM (b := 0) [] (m_lo (by decide)) (pf_obj rfl (by decide)) rfl (k_X8_noPlay (m_lo (by decide)) rfl) gX8_row_X8_noPlay rfl rfl rfl hd_X8_noPlay ⟨Nat.le_of_ble_eq_true rfl, Nat.le_of_ble_eq_true rfl⟩ ⟨Nat.le_of_ble_eq_true rfl, Nat.le_of_ble_eq_true rfl⟩ rfl (Nat.le_of_ble_eq_true rfl) dX8_row_1 (fun r9 ad9 L9 f9 hp9 => ?_)
  obtain ⟨he9, hr9⟩ := hp9
  cases he9
  subst hr9
  refine g_if_eq (tgt := 11) hX dX8_row_4 (by decide) (fun c_4 => ?_) (fun c_4 => ?_)
  · have c_4 := z10 c_4
    refine g_aload_n hX 0 rfl dX8_row_11 rfl ?_
    refine g_getI (i := 0) hX 12 7 q_inX8 (m_lo (by decide)) rfl (by decide) rfl (by decide) rfl q_w1 rfl dX8_row_12 ?_
    refine g_eqi (y := (M 0 7)) (up2_n (Or.inr (by decide))) ?_
    refine b_iret hX hE dX8_row_15 (by omega) (by omega) ?_
    exact ⟨rfl, if_neg c_4⟩
  · have c_4 := z11 c_4
    refine g_iconst hX (0) dX8_row_7 rfl ?_
    refine g_goto (tgt := 15) hX dX8_row_8 (by decide) ?_
    refine b_iret hX hE dX8_row_15 (by omega) (by omega) ?_
    exact ⟨rfl, if_pos c_4⟩
abbrev rm_X8_suction : Room := { frames := 2, cells := 0, slots := 0, locals := 42 }
theorem hd_X8_suction : yX8_suction.cls = RX8 ∧ yX8_suction.cls ≠ "java/lang/invoke/MethodHandle" ∧ yX8_suction.cls ≠ "java/lang/invoke/VarHandle" ∧ (parseMethodDescriptor yX8_suction.desc).map (fun d => d.parameters.length) = some 0 := by decide +kernel
set_option maxRecDepth 100000 in
set_option maxHeartbeats 4000000 in
theorem k_X8_suction {D : va_G} {dT : Nat → ClassId} {Z : ZT} {ad : Nat → Nat} (M : Nat → Nat → Int32) (S : SZ) (hS : WS S) (hw1 : M 1 2 = nI S.1) (hw2 : M 2 2 = nI S.2.1) (hw3 : M 3 2 = nI S.2.2.1) : ∀ l8, BI l8 yX8_suction wsX8_suction rm_X8_suction D (tyl dT) Z ad (mL S) (pf dT mK mN M (mR S) ad) [.ref (ad 0)] 0 0 (fun r u => u = (ad, mL S, mf dT ad (up2 M 0 15 (if M 0 6 < 0 then 1 else 0)) S) ∧ (if M 0 6 < 0 then 0 else M 0 8) = r) := by
  intro l9
  refine bi_of (own := RX8) (cc := cX8_suction) (maxL := 1) (some .int) [(0, .ref (ad 0))] (by decide) rfl rfl rfl (Nat.le_of_ble_eq_true rfl) ?_
  intro X hX hE hN hM
  have q_w1 : Cond.fieldLink RX8 161 "PerforatumModel" "suction" "I" ∈ wsX8_suction := List.mem_of_getElem? (i := 1) rfl
  have q_inX8 : ∀ w ∈ wsX80, w ∈ wsX8_suction := by decide +kernel
  refine g_aload_n hX 0 rfl dX8_suction_0 rfl ?_
  refine b_callI_V hX hM (b := 0) [] (m_lo (by decide)) (pf_obj rfl (by decide)) rfl (k_X8_noPlay (m_lo (by decide)) rfl) gX8_suction_X8_noPlay rfl rfl rfl hd_X8_noPlay ⟨Nat.le_of_ble_eq_true rfl, Nat.le_of_ble_eq_true rfl⟩ ⟨Nat.le_of_ble_eq_true rfl, Nat.le_of_ble_eq_true rfl⟩ rfl (Nat.le_of_ble_eq_true rfl) dX8_suction_1 (fun r9 ad9 L9 f9 hp9 => ?_)
  obtain ⟨he9, hr9⟩ := hp9
  cases he9
  subst hr9
  refine g_if_eq (tgt := 11) hX dX8_suction_4 (by decide) (fun c_4 => ?_) (fun c_4 => ?_)
  · have c_4 := z10 c_4
    refine g_aload_n hX 0 rfl dX8_suction_11 rfl ?_
    refine g_getI (i := 0) hX 12 8 q_inX8 (m_lo (by decide)) rfl (by decide) rfl (by decide) rfl q_w1 rfl dX8_suction_12 ?_
    refine g_eqi (y := (M 0 8)) (up2_n (Or.inr (by decide))) ?_
    refine b_iret hX hE dX8_suction_15 (by omega) (by omega) ?_
    exact ⟨rfl, if_neg c_4⟩
  · have c_4 := z11 c_4
    refine g_iconst hX (0) dX8_suction_7 rfl ?_
    refine g_goto (tgt := 15) hX dX8_suction_8 (by decide) ?_
    refine b_iret hX hE dX8_suction_15 (by omega) (by omega) ?_
    exact ⟨rfl, if_pos c_4⟩
abbrev rm_X8_level : Room := { frames := 2, cells := 0, slots := 0, locals := 42 }
theorem hd_X8_level : yX8_level.cls = RX8 ∧ yX8_level.cls ≠ "java/lang/invoke/MethodHandle" ∧ yX8_level.cls ≠ "java/lang/invoke/VarHandle" ∧ (parseMethodDescriptor yX8_level.desc).map (fun d => d.parameters.length) = some 0 := by decide +kernel
set_option maxRecDepth 100000 in
set_option maxHeartbeats 4000000 in
theorem k_X8_level {D : va_G} {dT : Nat → ClassId} {Z : ZT} {ad : Nat → Nat} (M : Nat → Nat → Int32) (S : SZ) (hS : WS S) (hw1 : M 1 2 = nI S.1) (hw2 : M 2 2 = nI S.2.1) (hw3 : M 3 2 = nI S.2.2.1) : ∀ l8, BI l8 yX8_level wsX8_level rm_X8_level D (tyl dT) Z ad (mL S) (pf dT mK mN M (mR S) ad) [.ref (ad 0)] 0 0 (fun r u => u = (ad, mL S, mf dT ad (up2 M 0 15 (if M 0 6 < 0 then 1 else 0)) S) ∧ (if M 0 6 < 0 then 0 else M 0 9) = r) := by
  intro l9
  refine bi_of (own := RX8) (cc := cX8_level) (maxL := 1) (some .int) [(0, .ref (ad 0))] (by decide) rfl rfl rfl (Nat.le_of_ble_eq_true rfl) ?_
  intro X hX hE hN hM
  have q_w1 : Cond.fieldLink RX8 164 "PerforatumModel" "level" "I" ∈ wsX8_level := List.mem_of_getElem? (i := 1) rfl
  have q_inX8 : ∀ w ∈ wsX80, w ∈ wsX8_level := by decide +kernel
  refine g_aload_n hX 0 rfl dX8_level_0 rfl ?_
  refine b_callI_V hX hM (b := 0) [] (m_lo (by decide)) (pf_obj rfl (by decide)) rfl (k_X8_noPlay (m_lo (by decide)) rfl) gX8_level_X8_noPlay rfl rfl rfl hd_X8_noPlay ⟨Nat.le_of_ble_eq_true rfl, Nat.le_of_ble_eq_true rfl⟩ ⟨Nat.le_of_ble_eq_true rfl, Nat.le_of_ble_eq_true rfl⟩ rfl (Nat.le_of_ble_eq_true rfl) dX8_level_1 (fun r9 ad9 L9 f9 hp9 => ?_)
  obtain ⟨he9, hr9⟩ := hp9
  cases he9
  subst hr9
  refine g_if_eq (tgt := 11) hX dX8_level_4 (by decide) (fun c_4 => ?_) (fun c_4 => ?_)
  · have c_4 := z10 c_4
    refine g_aload_n hX 0 rfl dX8_level_11 rfl ?_
    refine g_getI (i := 0) hX 12 9 q_inX8 (m_lo (by decide)) rfl (by decide) rfl (by decide) rfl q_w1 rfl dX8_level_12 ?_
    refine g_eqi (y := (M 0 9)) (up2_n (Or.inr (by decide))) ?_
    refine b_iret hX hE dX8_level_15 (by omega) (by omega) ?_
    exact ⟨rfl, if_neg c_4⟩
  · have c_4 := z11 c_4
    refine g_iconst hX (0) dX8_level_7 rfl ?_
    refine g_goto (tgt := 15) hX dX8_level_8 (by decide) ?_
    refine b_iret hX hE dX8_level_15 (by omega) (by omega) ?_
    exact ⟨rfl, if_pos c_4⟩
abbrev rm_X8_noHole : Room := { frames := 2, cells := 0, slots := 0, locals := 43 }
theorem hd_X8_noHole : yX8_noHole.cls = RX8 ∧ yX8_noHole.cls ≠ "java/lang/invoke/MethodHandle" ∧ yX8_noHole.cls ≠ "java/lang/invoke/VarHandle" ∧ (parseMethodDescriptor yX8_noHole.desc).map (fun d => d.parameters.length) = some 3 := by decide +kernel
set_option maxRecDepth 100000 in
set_option maxHeartbeats 4000000 in
theorem k_X8_noHole {D : va_G} {dT : Nat → ClassId} {Z : ZT} {ad : Nat → Nat} (M : Nat → Nat → Int32) (S : SZ) (hS : WS S) (hw1 : M 1 2 = nI S.1) (hw2 : M 2 2 = nI S.2.1) (hw3 : M 3 2 = nI S.2.2.1) (v r t : Int32) : ∀ l8, BI l8 yX8_noHole wsX8_noHole rm_X8_noHole D (tyl dT) Z ad (mL S) (pf dT mK mN M (mR S) ad) [.ref (ad 0), .int v, .int r, .int t] 0 0 (fun z u => u = (ad, mL S, mf dT ad (up2 M 0 15 (hoC S v r t)) S) ∧ (if hoC S v r t = 0 then 0 else 1) = z) := by
  intro l9
  refine bi_of (own := RX8) (cc := cX8_noHole) (maxL := 4) (some .boolean) [(0, .ref (ad 0)), (1, .int v), (2, .int r), (3, .int t)] (by decide) rfl rfl rfl (Nat.le_of_ble_eq_true rfl) ?_
  intro X hX hE hN hM
  refine g_aload_n hX 0 rfl dX8_noHole_0 rfl ?_
  refine g_aload_n hX 0 rfl dX8_noHole_1 rfl ?_
  refine g_iload_n hX 1 rfl dX8_noHole_2 rfl ?_
  refine b_callI_V hX hM (b := 0) [.int v] (m_lo (by decide)) (pf_obj rfl (by decide)) rfl (k_X8_isRoll (m_lo (by decide)) rfl (m_lo (by decide)) rfl rfl v) gX8_noHole_X8_isRoll rfl rfl rfl hd_X8_isRoll ⟨Nat.le_of_ble_eq_true rfl, Nat.le_of_ble_eq_true rfl⟩ ⟨Nat.le_of_ble_eq_true rfl, Nat.le_of_ble_eq_true rfl⟩ rfl (Nat.le_of_ble_eq_true rfl) dX8_noHole_3 (fun r9 ad9 L9 f9 hp9 => ?_)
  obtain ⟨he9, hr9⟩ := hp9
  cases he9
  subst hr9
  refine g_eqi (y := isi v 0 (nI S.1 - 1)) (by rw [hw1]) ?_
  refine g_iconst hX (1) dX8_noHole_6 rfl ?_
  refine b_callI_V hX hM (b := 0) [.int (isi v 0 (nI S.1 - 1)), .int 1] (m_lo (by decide)) (pf_obj rfl (by decide)) rfl (k_X8_no (m_lo (by decide)) rfl (isi v 0 (nI S.1 - 1)) 1) gX8_noHole_X8_no rfl rfl rfl hd_X8_no ⟨Nat.le_of_ble_eq_true rfl, Nat.le_of_ble_eq_true rfl⟩ ⟨Nat.le_of_ble_eq_true rfl, Nat.le_of_ble_eq_true rfl⟩ rfl (Nat.le_of_ble_eq_true rfl) dX8_noHole_7 (fun r9 ad9 L9 f9 hp9 => ?_)
  obtain ⟨he9, hr9⟩ := hp9
  cases he9
  subst hr9
  refine g_if_ne (tgt := 47) hX dX8_noHole_10 (by decide) (fun c_10 => ?_) (fun c_10 => ?_)
  · have c_10 := z11 c_10
    refine g_iconst hX (1) dX8_noHole_47 rfl ?_
    refine g_goto (tgt := 52) hX dX8_noHole_48 (by decide) ?_
    refine b_zret hX rfl hE dX8_noHole_52 (by omega) (by omega) ?_
    exact ⟨by rw [if_pos c_10, hoC, if_pos c_10], by simp [hoC, c_10]⟩
  · have c_10 := z10 c_10
    refine g_aload_n hX 0 rfl dX8_noHole_13 rfl ?_
    refine g_iload_n hX 2 rfl dX8_noHole_14 rfl ?_
    refine g_iconst hX (0) dX8_noHole_15 rfl ?_
    refine g_sipush hX (199) dX8_noHole_16 rfl ?_
    refine b_callI_S hX hM [.int r, .int 0, .int 199] (k_X8_isIn r 0 199) gX8_noHole_X8_isIn rfl rfl rfl hd_X8_isIn.2 ⟨Nat.le_of_ble_eq_true rfl, Nat.le_of_ble_eq_true rfl⟩ ⟨Nat.le_of_ble_eq_true rfl, Nat.le_of_ble_eq_true rfl⟩ rfl (Nat.le_of_ble_eq_true rfl) dX8_noHole_19 (fun r9 ad9 L9 f9 hp9 => ?_)
    obtain ⟨he9, hr9⟩ := hp9
    cases he9
    subst hr9
    refine g_if_eq (tgt := 39) hX dX8_noHole_22 (by decide) (fun c_22 => ?_) (fun c_22 => ?_)
    · refine g_iconst hX (0) dX8_noHole_39 rfl ?_
      refine g_iconst hX (2) dX8_noHole_40 rfl ?_
      refine b_callI_V hX hM (b := 0) [.int 0, .int 2] (m_lo (by decide)) (pf_obj rfl (by decide)) rfl (k_X8_no (m_lo (by decide)) rfl 0 2) gX8_noHole_X8_no rfl rfl rfl hd_X8_no ⟨Nat.le_of_ble_eq_true rfl, Nat.le_of_ble_eq_true rfl⟩ ⟨Nat.le_of_ble_eq_true rfl, Nat.le_of_ble_eq_true rfl⟩ rfl (Nat.le_of_ble_eq_true rfl) dX8_noHole_41 (fun r9 ad9 L9 f9 hp9 => ?_)
      obtain ⟨he9, hr9⟩ := hp9
      cases he9
      subst hr9
      rw [show (if (0 : Int32) = 0 then (2 : Int32) else 0) = 2 from by decide]
      refine g_eqi (y := 1) (by decide) ?_
      refine g_if_eq (tgt := 51) hX dX8_noHole_44 (by decide) (fun c_44 => ?_) (fun c_44 => ?_)
      · first | exact absurd c_44 (by decide) | exact absurd (by decide) c_44
      · refine g_iconst hX (1) dX8_noHole_47 rfl ?_
        refine g_goto (tgt := 52) hX dX8_noHole_48 (by decide) ?_
        refine b_zret hX rfl hE dX8_noHole_52 (by omega) (by omega) ?_
        exact ⟨by rw [up2_ss, hoC, if_neg c_10, if_pos c_22], by simp [hoC, c_10, c_22]⟩
    · refine g_iload_n hX 3 rfl dX8_noHole_25 rfl ?_
      refine g_iconst hX (0) dX8_noHole_26 rfl ?_
      refine g_bipush hX (15) dX8_noHole_27 rfl ?_
      refine b_callI_S hX hM [.int t, .int 0, .int 15] (k_X8_isIn t 0 15) gX8_noHole_X8_isIn rfl rfl rfl hd_X8_isIn.2 ⟨Nat.le_of_ble_eq_true rfl, Nat.le_of_ble_eq_true rfl⟩ ⟨Nat.le_of_ble_eq_true rfl, Nat.le_of_ble_eq_true rfl⟩ rfl (Nat.le_of_ble_eq_true rfl) dX8_noHole_29 (fun r9 ad9 L9 f9 hp9 => ?_)
      obtain ⟨he9, hr9⟩ := hp9
      cases he9
      subst hr9
      refine g_if_eq (tgt := 39) hX dX8_noHole_32 (by decide) (fun c_32 => ?_) (fun c_32 => ?_)
      · refine g_iconst hX (0) dX8_noHole_39 rfl ?_
        refine g_iconst hX (2) dX8_noHole_40 rfl ?_
        refine b_callI_V hX hM (b := 0) [.int 0, .int 2] (m_lo (by decide)) (pf_obj rfl (by decide)) rfl (k_X8_no (m_lo (by decide)) rfl 0 2) gX8_noHole_X8_no rfl rfl rfl hd_X8_no ⟨Nat.le_of_ble_eq_true rfl, Nat.le_of_ble_eq_true rfl⟩ ⟨Nat.le_of_ble_eq_true rfl, Nat.le_of_ble_eq_true rfl⟩ rfl (Nat.le_of_ble_eq_true rfl) dX8_noHole_41 (fun r9 ad9 L9 f9 hp9 => ?_)
        obtain ⟨he9, hr9⟩ := hp9
        cases he9
        subst hr9
        rw [show (if (0 : Int32) = 0 then (2 : Int32) else 0) = 2 from by decide]
        refine g_eqi (y := 1) (by decide) ?_
        refine g_if_eq (tgt := 51) hX dX8_noHole_44 (by decide) (fun c_44 => ?_) (fun c_44 => ?_)
        · first | exact absurd c_44 (by decide) | exact absurd (by decide) c_44
        · refine g_iconst hX (1) dX8_noHole_47 rfl ?_
          refine g_goto (tgt := 52) hX dX8_noHole_48 (by decide) ?_
          refine b_zret hX rfl hE dX8_noHole_52 (by omega) (by omega) ?_
          exact ⟨by rw [up2_ss, hoC, if_neg c_10, if_neg c_22, if_pos c_32], by simp [hoC, c_10, c_22, c_32]⟩
      · refine g_iconst hX (1) dX8_noHole_35 rfl ?_
        refine g_goto (tgt := 40) hX dX8_noHole_36 (by decide) ?_
        refine g_iconst hX (2) dX8_noHole_40 rfl ?_
        refine b_callI_V hX hM (b := 0) [.int 1, .int 2] (m_lo (by decide)) (pf_obj rfl (by decide)) rfl (k_X8_no (m_lo (by decide)) rfl 1 2) gX8_noHole_X8_no rfl rfl rfl hd_X8_no ⟨Nat.le_of_ble_eq_true rfl, Nat.le_of_ble_eq_true rfl⟩ ⟨Nat.le_of_ble_eq_true rfl, Nat.le_of_ble_eq_true rfl⟩ rfl (Nat.le_of_ble_eq_true rfl) dX8_noHole_41 (fun r9 ad9 L9 f9 hp9 => ?_)
        obtain ⟨he9, hr9⟩ := hp9
        cases he9
        subst hr9
        rw [show (if (1 : Int32) = 0 then (2 : Int32) else 0) = 0 from by decide]
        refine g_eqi (y := 0) (by decide) ?_
        refine g_if_eq (tgt := 51) hX dX8_noHole_44 (by decide) (fun c_44 => ?_) (fun c_44 => ?_)
        · refine g_iconst hX (0) dX8_noHole_51 rfl ?_
          refine b_zret hX rfl hE dX8_noHole_52 (by omega) (by omega) ?_
          exact ⟨by rw [up2_ss, hoC, if_neg c_10, if_neg c_22, if_neg c_32], by simp [hoC, c_10, c_22, c_32]⟩
        · first | exact absurd c_44 (by decide) | exact absurd (by decide) c_44
abbrev rm_X8_hole : Room := { frames := 3, cells := 0, slots := 0, locals := 66 }
theorem hd_X8_hole : yX8_hole.cls = RX8 ∧ yX8_hole.cls ≠ "java/lang/invoke/MethodHandle" ∧ yX8_hole.cls ≠ "java/lang/invoke/VarHandle" ∧ (parseMethodDescriptor yX8_hole.desc).map (fun d => d.parameters.length) = some 3 := by decide +kernel
set_option maxRecDepth 100000 in
set_option maxHeartbeats 4000000 in
theorem k_X8_hole {D : va_G} {dT : Nat → ClassId} {Z : ZT} {ad : Nat → Nat} (M : Nat → Nat → Int32) (S : SZ) (hS : WS S) (hw1 : M 1 2 = nI S.1) (hw2 : M 2 2 = nI S.2.1) (hw3 : M 3 2 = nI S.2.2.1) (v r t : Int32) : ∀ l8, BI l8 yX8_hole wsX8_hole rm_X8_hole D (tyl dT) Z ad (mL S) (pf dT mK mN M (mR S) ad) [.ref (ad 0), .int v, .int r, .int t] 0 0 (fun z u => u = (ad, mL S, mf dT ad (up2 M 0 15 (hoC S v r t)) S) ∧ (if hoC S v r t = 0 then (if M (6000 + 200 * v.toNatClampNeg + r.toNatClampNeg) t.toNatClampNeg = 0 then 0 else 1) else 0) = z) := by
  intro l9
  refine bi_of (own := RX8) (cc := cX8_hole) (maxL := 4) (some .boolean) [(0, .ref (ad 0)), (1, .int v), (2, .int r), (3, .int t)] (by decide) rfl rfl rfl (Nat.le_of_ble_eq_true rfl) ?_
  intro X hX hE hN hM
  have q_w1 : Cond.fieldLink RX8 10 "PerforatumModel" "rolls" "Ljava/util/List;" ∈ wsX8_hole := List.mem_of_getElem? (i := 1) rfl
  have q_inX8 : ∀ w ∈ wsX80, w ∈ wsX8_hole := by decide +kernel
  have q_w2 : Cond.classLink RX8 68 "[[Z" ∈ wsX8_hole := List.mem_of_getElem? (i := 2) rfl
  refine g_aload_n hX 0 rfl dX8_hole_0 rfl ?_
  refine g_iload_n hX 1 rfl dX8_hole_1 rfl ?_
  refine g_iload_n hX 2 rfl dX8_hole_2 rfl ?_
  refine g_iload_n hX 3 rfl dX8_hole_3 rfl ?_
  refine b_callI_V hX hM (b := 0) [.int v, .int r, .int t] (m_lo (by decide)) (pf_obj rfl (by decide)) rfl (k_X8_noHole M S hS hw1 hw2 hw3 v r t) gX8_hole_X8_noHole rfl rfl rfl hd_X8_noHole ⟨Nat.le_of_ble_eq_true rfl, Nat.le_of_ble_eq_true rfl⟩ ⟨Nat.le_of_ble_eq_true rfl, Nat.le_of_ble_eq_true rfl⟩ rfl (Nat.le_of_ble_eq_true rfl) dX8_hole_4 (fun r9 ad9 L9 f9 hp9 => ?_)
  obtain ⟨he9, hr9⟩ := hp9
  cases he9
  subst hr9
  refine g_if_ne (tgt := 34) hX dX8_hole_7 (by decide) (fun c_7 => ?_) (fun c_7 => ?_)
  · have c_7 := z00 c_7
    refine g_iconst hX (0) dX8_hole_34 rfl ?_
    refine b_zret hX rfl hE dX8_hole_35 (by omega) (by omega) ?_
    exact ⟨rfl, if_neg c_7⟩
  · have c_7 := z01 c_7
    obtain ⟨j, i, k, hj, hi, hk, rfl, rfl, rfl⟩ := hoC_0 hS c_7
    refine g_aload_n hX 0 rfl dX8_hole_10 rfl ?_
    refine g_getRs (i := 0) hX 12 0 q_inX8 (m_lo (by decide)) rfl (by decide) rfl (by decide) rfl q_w1 rfl (j := 1) rfl dX8_hole_11 ?_
    refine g_iload_n hX 1 rfl dX8_hole_14 rfl ?_
    refine b_callQ_F hX hM (b := 1) [.int (nI j)] (m_lo (by decide)) (pf_obj rfl (by decide)) rfl (q_get1 S hS (fun _ h => h) (fun _ _ => rfl) ((up2_n (Or.inl (by decide))).trans hw1) j hj) gX8_hole_Jx4a65c_get_915e3_f81Jx4a65c (by decide +kernel) rfl rfl rfl hdF_get ⟨Nat.le_of_ble_eq_true rfl, Nat.le_of_ble_eq_true rfl⟩ ⟨Nat.le_of_ble_eq_true rfl, Nat.le_of_ble_eq_true rfl⟩ rfl (Nat.le_of_ble_eq_true rfl) dX8_hole_15 (fun r9 ad9 L9 f9 hp9 => ?_)
    obtain ⟨he9, hr9⟩ := hp9
    cases he9
    subst hr9
    refine b_cast26 (i := (5000 + j)) hX (m_o hS hj) (mK_o (by have := hS.1; omega)) q_w2 dX8_hole_20 ?_
    refine g_iload_n hX 2 rfl dX8_hole_23 rfl ?_
    refine h_aald26 (i := (5000 + j)) hX i rfl (by rw [mN_o (by have := hS.1; omega)]; omega) (by rw [mN_o (by have := hS.1; omega)]; decide) (j := (6000 + 200 * j + i)) (mR_o (by have := hS.1; omega) (by omega)) (m_o hS hj) (mK_o (by have := hS.1; omega)) dX8_hole_24 ?_
    refine g_iload_n hX 3 rfl dX8_hole_25 rfl ?_
    refine h_zald (i := (6000 + 200 * j + i)) hX k rfl (by rw [mN_r (by have := hS.1; omega) (by omega)]; omega) (by rw [mN_r (by have := hS.1; omega) (by omega)]; decide) (m_r hS hj (by omega)) (mK_r (by have := hS.1; omega) (by omega)) dX8_hole_26 ?_
    refine g_eqi (y := (M (6000 + 200 * j + i) k)) (up2_n (Or.inl (by omega))) ?_
    refine g_if_eq (tgt := 34) hX dX8_hole_27 (by decide) (fun c_27 => ?_) (fun c_27 => ?_)
    · refine g_iconst hX (0) dX8_hole_34 rfl ?_
      refine b_zret hX rfl hE dX8_hole_35 (by omega) (by omega) ?_
      exact ⟨rfl, by rw [if_pos c_7, nI_clamp (n := j) (by have := hS.1; omega), nI_clamp (n := i) (by omega), nI_clamp (n := k) (by omega), if_pos c_27]⟩
    · refine g_iconst hX (1) dX8_hole_30 rfl ?_
      refine g_goto (tgt := 35) hX dX8_hole_31 (by decide) ?_
      refine b_zret hX rfl hE dX8_hole_35 (by omega) (by omega) ?_
      exact ⟨rfl, by rw [if_pos c_7, nI_clamp (n := j) (by have := hS.1; omega), nI_clamp (n := i) (by omega), nI_clamp (n := k) (by omega), if_neg c_27]⟩
abbrev rm_X8_soundings : Room := { frames := 1, cells := 0, slots := 0, locals := 20 }
theorem hd_X8_soundings : yX8_soundings.cls = RX8 ∧ yX8_soundings.cls ≠ "java/lang/invoke/MethodHandle" ∧ yX8_soundings.cls ≠ "java/lang/invoke/VarHandle" ∧ (parseMethodDescriptor yX8_soundings.desc).map (fun d => d.parameters.length) = some 0 := by decide +kernel
set_option maxRecDepth 100000 in
set_option maxHeartbeats 4000000 in
theorem k_X8_soundings {D : va_G} {dT : Nat → ClassId} {Z : ZT} {ad : Nat → Nat} (M : Nat → Nat → Int32) (S : SZ) (hS : WS S) (hw1 : M 1 2 = nI S.1) (hw2 : M 2 2 = nI S.2.1) (hw3 : M 3 2 = nI S.2.2.1) : ∀ l8, BI l8 yX8_soundings wsX8_soundings rm_X8_soundings D (tyl dT) Z ad (mL S) (pf dT mK mN M (mR S) ad) [.ref (ad 0)] 0 0 (fun r u => u = (ad, mL S, mf dT ad M S) ∧ nI S.2.2.1 = r) := by
  intro l9
  refine bi_of (own := RX8) (cc := cX8_soundings) (maxL := 1) (some .int) [(0, .ref (ad 0))] (by decide) rfl rfl rfl (Nat.le_of_ble_eq_true rfl) ?_
  intro X hX hE hN hM
  have q_w1 : Cond.fieldLink RX8 19 "PerforatumModel" "sounds" "Ljava/util/List;" ∈ wsX8_soundings := List.mem_of_getElem? (i := 1) rfl
  have q_inX8 : ∀ w ∈ wsX80, w ∈ wsX8_soundings := by decide +kernel
  refine g_aload_n hX 0 rfl dX8_soundings_0 rfl ?_
  refine g_getRs (i := 0) hX 12 2 q_inX8 (m_lo (by decide)) rfl (by decide) rfl (by decide) rfl q_w1 rfl (j := 3) rfl dX8_soundings_1 ?_
  refine b_callI_F hX hM (b := 3) [] (m_lo (by decide)) (pf_obj rfl (by decide)) rfl (k_Jx4a65c_size_8abf5 3 (m_lo (by decide)) rfl) gX8_soundings_Jx4a65c_size_8abf5_f54Jx4a65c (by decide +kernel) rfl rfl rfl hdF_size ⟨Nat.le_of_ble_eq_true rfl, Nat.le_of_ble_eq_true rfl⟩ ⟨Nat.le_of_ble_eq_true rfl, Nat.le_of_ble_eq_true rfl⟩ rfl (Nat.le_of_ble_eq_true rfl) dX8_soundings_4 (fun r9 ad9 L9 f9 hp9 => ?_)
  obtain ⟨he9, hr9⟩ := hp9
  cases he9
  subst hr9
  refine g_eqi (y := (nI S.2.2.1)) hw3 ?_
  refine b_iret hX hE dX8_soundings_9 (by omega) (by omega) ?_
  exact ⟨rfl, rfl⟩
