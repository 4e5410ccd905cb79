abbrev rm_X0_isFull : Room := { frames := 0, cells := 0, slots := 0, locals := 0 }
theorem hd_X0_isFull : yX0_isFull.cls = RX0 ∧ yX0_isFull.cls ≠ "java/lang/invoke/MethodHandle" ∧ yX0_isFull.cls ≠ "java/lang/invoke/VarHandle" ∧ (parseMethodDescriptor yX0_isFull.desc).map (fun d => d.parameters.length) = some 0 := by decide +kernel
set_option maxRecDepth 100000 in
set_option maxHeartbeats 4000000 in
theorem k_X0_isFull {D : va_G} {dT : Nat → ClassId} {ad : Nat → Nat} (I : Nat → Nat → Int32) (c : Nat) (hc : I 2 3 = nI c) (h40 : c ≤ 40) : KI yX0_isFull wsX0_isFull rm_X0_isFull D dT ad I [.ref (ad 2)] (fun r J => I = J ∧ (if c < 40 then 0 else 1) = r) := by
  intro l9
  refine ci_of (own := RX0) (cc := cX0_isFull) (maxL := 1) (some .boolean) [(0, .ref (ad 2))] (by decide) rfl rfl rfl (Nat.le_of_ble_eq_true rfl) ?_
  intro X hX hE hN
  have q_w1 : Cond.fieldLink RX0 21 "Perforatum$Music" "count" "I" ∈ wsX0_isFull := List.mem_of_getElem? (i := 1) rfl
  have q_inX0 : ∀ w ∈ wsX00, w ∈ wsX0_isFull := by decide +kernel
  refine g_aload_n hX 0 rfl dX0_isFull_0 rfl ?_
  refine cg_X0_count hX (by decide) rfl q_inX0 q_w1 dX0_isFull_1 ?_
  refine g_eqi (y := (nI c)) hc ?_
  refine g_bipush hX (40) dX0_isFull_4 rfl ?_
  refine g_icmp_lt (tgt := 13) hX dX0_isFull_6 (by decide) (fun c_6 => ?_) (fun c_6 => ?_)
  · have c_6 : c < 40 := (nI_ltI (a := c) (b := 40) (by omega) (by omega)).mp c_6
    refine g_iconst hX (0) dX0_isFull_13 rfl ?_
    refine g_zret hX rfl hE dX0_isFull_14 (by omega) (by omega) ?_
    exact ⟨_, rfl, rfl, by simp only [c_6, if_true, if_false]⟩
  · have c_6 : ¬ c < 40 := fun h9 => c_6 ((nI_ltI (a := c) (b := 40) (by omega) (by omega)).mpr h9)
    refine g_iconst hX (1) dX0_isFull_9 rfl ?_
    refine g_goto (tgt := 14) hX dX0_isFull_10 (by decide) ?_
    refine g_zret hX rfl hE dX0_isFull_14 (by omega) (by omega) ?_
    exact ⟨_, rfl, rfl, by simp only [c_6, if_true, if_false]⟩
abbrev rm_X0_isTooNear : Room := { frames := 0, cells := 0, slots := 0, locals := 0 }
theorem hd_X0_isTooNear : yX0_isTooNear.cls = RX0 ∧ yX0_isTooNear.cls ≠ "java/lang/invoke/MethodHandle" ∧ yX0_isTooNear.cls ≠ "java/lang/invoke/VarHandle" ∧ (parseMethodDescriptor yX0_isTooNear.desc).map (fun d => d.parameters.length) = some 3 := by decide +kernel
set_option maxRecDepth 100000 in
set_option maxHeartbeats 4000000 in
theorem k_X0_isTooNear {D : va_G} {dT : Nat → ClassId} {ad : Nat → Nat} (I : Nat → Nat → Int32) (c : Nat) (hc : I 2 3 = nI c) (h40 : c ≤ 40) (f l p : Int32) : KI yX0_isTooNear wsX0_isTooNear rm_X0_isTooNear D dT ad I [.ref (ad 2), .int f, .int l, .int p] (fun r J => I = J ∧ ntn I f l p c 0 = r) := by
  intro l9
  refine ci_of (own := RX0) (cc := cX0_isTooNear) (maxL := 7) (some .boolean) [(0, .ref (ad 2)), (1, .int f), (2, .int l), (3, .int p)] (by decide) rfl rfl rfl (Nat.le_of_ble_eq_true rfl) ?_
  intro X hX hE hN
  have q_w1 : Cond.fieldLink RX0 21 "Perforatum$Music" "count" "I" ∈ wsX0_isTooNear := List.mem_of_getElem? (i := 1) rfl
  have q_inX0 : ∀ w ∈ wsX00, w ∈ wsX0_isTooNear := by decide +kernel
  have q_w2 : Cond.fieldLink RX0 18 "Perforatum$Music" "pitches" "[I" ∈ wsX0_isTooNear := List.mem_of_getElem? (i := 2) rfl
  have q_w3 : Cond.fieldLink RX0 9 "Perforatum$Music" "firsts" "[I" ∈ wsX0_isTooNear := List.mem_of_getElem? (i := 3) rfl
  have q_w4 : Cond.fieldLink RX0 15 "Perforatum$Music" "lengths" "[I" ∈ wsX0_isTooNear := List.mem_of_getElem? (i := 4) rfl
  refine g_iconst hX (0) dX0_isTooNear_0 rfl ?_
  refine g_istore hX [(4, .int 0), (0, .ref (ad 2)), (1, .int f), (2, .int l), (3, .int p)] rfl dX0_isTooNear_1 (by decide) ?_
  have lp_3 : ∀ (n9 : Nat) (k : Nat), c - k < n9 → k ≤ c → ntn I f l p c 0 = ntn I f l p (c - k) k → CG X D dT ad I [(4, .int (nI k)), (0, .ref (ad 2)), (1, .int f), (2, .int l), (3, .int p)] 0 0 3 [] := by
    intro n9
    induction n9 with
    | zero => intro k h9; exact absurd h9 (Nat.not_lt_zero _)
    | succ n9 ih9 =>
      intro k h9 hk hs
      have ih_3 := ih9
      refine g_iload hX 0 rfl dX0_isTooNear_3 ?_
      refine g_aload_n hX 1 rfl dX0_isTooNear_5 rfl ?_
      refine cg_X0_count hX (by decide) rfl q_inX0 q_w1 dX0_isTooNear_6 ?_
      refine g_eqi (y := (nI c)) hc ?_
      refine g_icmp_ge (tgt := 91) hX dX0_isTooNear_9 (by decide) (fun c_9 => ?_) (fun c_9 => ?_)
      · have c_9 : c ≤ k := (nI_leI (a := c) (b := k) (by omega) (by omega)).mp c_9
        refine g_iconst hX (0) dX0_isTooNear_91 rfl ?_
        refine g_zret hX rfl hE dX0_isTooNear_92 (by omega) (by omega) ?_
        exact ⟨_, rfl, rfl, by rw [hs, show c - k = 0 by omega]; rfl⟩
      · have c_9 : ¬ c ≤ k := fun h9 => c_9 ((nI_leI (a := c) (b := k) (by omega) (by omega)).mpr h9)
        refine g_aload_n hX 1 rfl dX0_isTooNear_12 rfl ?_
        refine cg_X0_pitches hX (by decide) rfl q_inX0 q_w2 rfl dX0_isTooNear_13 ?_
        refine g_iload hX 0 rfl dX0_isTooNear_16 ?_
        refine c_ialdk hX k (by decide) rfl (by show _ < (40 : Nat); omega) (by omega) dX0_isTooNear_18 ?_
        refine g_iload_n hX 4 rfl dX0_isTooNear_19 rfl ?_
        refine g_icmp_ne (tgt := 85) hX dX0_isTooNear_20 (by decide) (fun c_20 => ?_) (fun c_20 => ?_)
        · refine g_iinc hX (nI (k + 1)) [(4, .int (nI (k + 1))), (0, .ref (ad 2)), (1, .int f), (2, .int l), (3, .int p)] (k := 0) rfl (g_inc k) rfl dX0_isTooNear_85 (by decide) ?_
          refine g_goto (tgt := 3) hX dX0_isTooNear_88 (by decide) ?_
          refine g_lv [0, 1, 2, 3, 4] rfl ?_
          exact ih_3 (k + 1) (by omega) (by omega) (hs.trans (by rw [show c - k = (c - (k + 1)) + 1 by omega, ntn]; simp only [c_20, if_true, if_false]))
        · refine g_iload_n hX 2 rfl dX0_isTooNear_23 rfl ?_
          refine g_iload_n hX 3 rfl dX0_isTooNear_24 rfl ?_
          refine g_iadd hX dX0_isTooNear_25 ?_
          refine g_iconst hX (2) dX0_isTooNear_26 rfl ?_
          refine g_iadd hX dX0_isTooNear_27 ?_
          refine g_aload_n hX 1 rfl dX0_isTooNear_28 rfl ?_
          refine cg_X0_firsts hX (by decide) rfl q_inX0 q_w3 rfl dX0_isTooNear_29 ?_
          refine g_iload hX 0 rfl dX0_isTooNear_32 ?_
          refine c_ialdk hX k (by decide) rfl (by show _ < (40 : Nat); omega) (by omega) dX0_isTooNear_34 ?_
          refine g_icmp_gt (tgt := 42) hX dX0_isTooNear_35 (by decide) (fun c_35 => ?_) (fun c_35 => ?_)
          · refine g_iconst hX (0) dX0_isTooNear_42 rfl ?_
            refine g_istore hX [(5, .int 0), (4, .int (nI k)), (0, .ref (ad 2)), (1, .int f), (2, .int l), (3, .int p)] rfl dX0_isTooNear_43 (by decide) ?_
            refine g_aload_n hX 2 rfl dX0_isTooNear_45 rfl ?_
            refine cg_X0_firsts hX (by decide) rfl q_inX0 q_w3 rfl dX0_isTooNear_46 ?_
            refine g_iload hX 1 rfl dX0_isTooNear_49 ?_
            refine c_ialdk hX k (by decide) rfl (by show _ < (40 : Nat); omega) (by omega) dX0_isTooNear_51 ?_
            refine g_aload_n hX 2 rfl dX0_isTooNear_52 rfl ?_
            refine cg_X0_lengths hX (by decide) rfl q_inX0 q_w4 rfl dX0_isTooNear_53 ?_
            refine g_iload hX 1 rfl dX0_isTooNear_56 ?_
            refine c_ialdk hX k (by decide) rfl (by show _ < (40 : Nat); omega) (by omega) dX0_isTooNear_58 ?_
            refine g_iadd hX dX0_isTooNear_59 ?_
            refine g_iconst hX (2) dX0_isTooNear_60 rfl ?_
            refine g_iadd hX dX0_isTooNear_61 ?_
            refine g_iload_n hX 3 rfl dX0_isTooNear_62 rfl ?_
            refine g_icmp_gt (tgt := 70) hX dX0_isTooNear_63 (by decide) (fun c_63 => ?_) (fun c_63 => ?_)
            · refine g_iconst hX (0) dX0_isTooNear_70 rfl ?_
              refine g_istore hX [(6, .int 0), (5, .int 0), (4, .int (nI k)), (0, .ref (ad 2)), (1, .int f), (2, .int l), (3, .int p)] rfl dX0_isTooNear_71 (by decide) ?_
              refine g_iload hX 1 rfl dX0_isTooNear_73 ?_
              refine g_if_ne (tgt := 85) hX dX0_isTooNear_75 (by decide) (fun c_75 => ?_) (fun c_75 => ?_)
              · first | exact absurd c_75 (by decide) | exact absurd (by decide) c_75
              · refine g_iload hX 0 rfl dX0_isTooNear_78 ?_
                refine g_if_ne (tgt := 85) hX dX0_isTooNear_80 (by decide) (fun c_80 => ?_) (fun c_80 => ?_)
                · first | exact absurd c_80 (by decide) | exact absurd (by decide) c_80
                · refine g_iconst hX (1) dX0_isTooNear_83 rfl ?_
                  refine g_zret hX rfl hE dX0_isTooNear_84 (by omega) (by omega) ?_
                  exact ⟨_, rfl, rfl, by rw [hs, show c - k = (c - (k + 1)) + 1 by omega, ntn]; simp only [c_20, c_35, c_63, if_true, if_false]⟩
            · refine g_iconst hX (1) dX0_isTooNear_66 rfl ?_
              refine g_goto (tgt := 71) hX dX0_isTooNear_67 (by decide) ?_
              refine g_istore hX [(6, .int 1), (5, .int 0), (4, .int (nI k)), (0, .ref (ad 2)), (1, .int f), (2, .int l), (3, .int p)] rfl dX0_isTooNear_71 (by decide) ?_
              refine g_iload hX 1 rfl dX0_isTooNear_73 ?_
              refine g_if_ne (tgt := 85) hX dX0_isTooNear_75 (by decide) (fun c_75 => ?_) (fun c_75 => ?_)
              · first | exact absurd c_75 (by decide) | exact absurd (by decide) c_75
              · refine g_iload hX 0 rfl dX0_isTooNear_78 ?_
                refine g_if_ne (tgt := 85) hX dX0_isTooNear_80 (by decide) (fun c_80 => ?_) (fun c_80 => ?_)
                · refine g_iinc hX (nI (k + 1)) [(4, .int (nI (k + 1))), (6, .int 1), (5, .int 0), (0, .ref (ad 2)), (1, .int f), (2, .int l), (3, .int p)] (k := 2) rfl (g_inc k) rfl dX0_isTooNear_85 (by decide) ?_
                  refine g_goto (tgt := 3) hX dX0_isTooNear_88 (by decide) ?_
                  refine g_lv [0, 3, 4, 5, 6] rfl ?_
                  exact ih_3 (k + 1) (by omega) (by omega) (hs.trans (by rw [show c - k = (c - (k + 1)) + 1 by omega, ntn]; simp only [c_20, c_35, c_63, if_true, if_false]))
                · first | exact absurd c_80 (by decide) | exact absurd (by decide) c_80
          · refine g_iconst hX (1) dX0_isTooNear_38 rfl ?_
            refine g_goto (tgt := 43) hX dX0_isTooNear_39 (by decide) ?_
            refine g_istore hX [(5, .int 1), (4, .int (nI k)), (0, .ref (ad 2)), (1, .int f), (2, .int l), (3, .int p)] rfl dX0_isTooNear_43 (by decide) ?_
            refine g_aload_n hX 2 rfl dX0_isTooNear_45 rfl ?_
            refine cg_X0_firsts hX (by decide) rfl q_inX0 q_w3 rfl dX0_isTooNear_46 ?_
            refine g_iload hX 1 rfl dX0_isTooNear_49 ?_
            refine c_ialdk hX k (by decide) rfl (by show _ < (40 : Nat); omega) (by omega) dX0_isTooNear_51 ?_
            refine g_aload_n hX 2 rfl dX0_isTooNear_52 rfl ?_
            refine cg_X0_lengths hX (by decide) rfl q_inX0 q_w4 rfl dX0_isTooNear_53 ?_
            refine g_iload hX 1 rfl dX0_isTooNear_56 ?_
            refine c_ialdk hX k (by decide) rfl (by show _ < (40 : Nat); omega) (by omega) dX0_isTooNear_58 ?_
            refine g_iadd hX dX0_isTooNear_59 ?_
            refine g_iconst hX (2) dX0_isTooNear_60 rfl ?_
            refine g_iadd hX dX0_isTooNear_61 ?_
            refine g_iload_n hX 3 rfl dX0_isTooNear_62 rfl ?_
            refine g_icmp_gt (tgt := 70) hX dX0_isTooNear_63 (by decide) (fun c_63 => ?_) (fun c_63 => ?_)
            · refine g_iconst hX (0) dX0_isTooNear_70 rfl ?_
              refine g_istore hX [(6, .int 0), (5, .int 1), (4, .int (nI k)), (0, .ref (ad 2)), (1, .int f), (2, .int l), (3, .int p)] rfl dX0_isTooNear_71 (by decide) ?_
              refine g_iload hX 1 rfl dX0_isTooNear_73 ?_
              refine g_if_ne (tgt := 85) hX dX0_isTooNear_75 (by decide) (fun c_75 => ?_) (fun c_75 => ?_)
              · refine g_iinc hX (nI (k + 1)) [(4, .int (nI (k + 1))), (6, .int 0), (5, .int 1), (0, .ref (ad 2)), (1, .int f), (2, .int l), (3, .int p)] (k := 2) rfl (g_inc k) rfl dX0_isTooNear_85 (by decide) ?_
                refine g_goto (tgt := 3) hX dX0_isTooNear_88 (by decide) ?_
                refine g_lv [0, 3, 4, 5, 6] rfl ?_
                exact ih_3 (k + 1) (by omega) (by omega) (hs.trans (by rw [show c - k = (c - (k + 1)) + 1 by omega, ntn]; simp only [c_20, c_35, c_63, if_true, if_false]))
              · first | exact absurd c_75 (by decide) | exact absurd (by decide) c_75
            · refine g_iconst hX (1) dX0_isTooNear_66 rfl ?_
              refine g_goto (tgt := 71) hX dX0_isTooNear_67 (by decide) ?_
              refine g_istore hX [(6, .int 1), (5, .int 1), (4, .int (nI k)), (0, .ref (ad 2)), (1, .int f), (2, .int l), (3, .int p)] rfl dX0_isTooNear_71 (by decide) ?_
              refine g_iload hX 1 rfl dX0_isTooNear_73 ?_
              refine g_if_ne (tgt := 85) hX dX0_isTooNear_75 (by decide) (fun c_75 => ?_) (fun c_75 => ?_)
              · refine g_iinc hX (nI (k + 1)) [(4, .int (nI (k + 1))), (6, .int 1), (5, .int 1), (0, .ref (ad 2)), (1, .int f), (2, .int l), (3, .int p)] (k := 2) rfl (g_inc k) rfl dX0_isTooNear_85 (by decide) ?_
                refine g_goto (tgt := 3) hX dX0_isTooNear_88 (by decide) ?_
                refine g_lv [0, 3, 4, 5, 6] rfl ?_
                exact ih_3 (k + 1) (by omega) (by omega) (hs.trans (by rw [show c - k = (c - (k + 1)) + 1 by omega, ntn]; simp only [c_20, c_35, c_63, if_true, if_false]))
              · first | exact absurd c_75 (by decide) | exact absurd (by decide) c_75
  refine g_lv [0, 1, 2, 3, 4] rfl ?_
  exact lp_3 _ 0 (Nat.lt_succ_self _) (Nat.zero_le _) rfl
abbrev rm_X0_type : Room := { frames := 0, cells := 0, slots := 0, locals := 0 }
theorem hd_X0_type : yX0_type.cls = RX0 ∧ yX0_type.cls ≠ "java/lang/invoke/MethodHandle" ∧ yX0_type.cls ≠ "java/lang/invoke/VarHandle" ∧ (parseMethodDescriptor yX0_type.desc).map (fun d => d.parameters.length) = some 3 := by decide +kernel
set_option maxRecDepth 100000 in
set_option maxHeartbeats 4000000 in
theorem k_X0_type {D : va_G} {dT : Nat → ClassId} {ad : Nat → Nat} (I : Nat → Nat → Int32) (c : Nat) (hc : I 2 3 = nI c) (h40 : c < 40) (f l p : Int32) : KI yX0_type wsX0_type rm_X0_type D dT ad I [.ref (ad 2), .int f, .int l, .int p] (fun r J => typ I c f l p = J ∧ nI c + 1 = r) := by
  intro l9
  refine ci_of (own := RX0) (cc := cX0_type) (maxL := 4) (some .int) [(0, .ref (ad 2)), (1, .int f), (2, .int l), (3, .int p)] (by decide) rfl rfl rfl (Nat.le_of_ble_eq_true rfl) ?_
  intro X hX hE hN
  have q_w1 : Cond.fieldLink RX0 21 "Perforatum$Music" "count" "I" ∈ wsX0_type := List.mem_of_getElem? (i := 1) rfl
  have q_inX0 : ∀ w ∈ wsX00, w ∈ wsX0_type := by decide +kernel
  have q_w2 : Cond.fieldLink RX0 9 "Perforatum$Music" "firsts" "[I" ∈ wsX0_type := List.mem_of_getElem? (i := 2) rfl
  have q_w3 : Cond.fieldLink RX0 15 "Perforatum$Music" "lengths" "[I" ∈ wsX0_type := List.mem_of_getElem? (i := 3) rfl
  have q_w4 : Cond.fieldLink RX0 18 "Perforatum$Music" "pitches" "[I" ∈ wsX0_type := List.mem_of_getElem? (i := 4) rfl
  refine g_aload_n hX 0 rfl dX0_type_0 rfl ?_
  refine cg_X0_count hX (by decide) rfl q_inX0 q_w1 dX0_type_1 ?_
  refine g_eqi (y := (nI c)) hc ?_
  refine g_bipush hX (40) dX0_type_4 rfl ?_
  refine g_icmp_ge (tgt := 49) hX dX0_type_6 (by decide) (fun c_6 => ?_) (fun c_6 => ?_)
  · exact absurd ((nI_leI (a := 40) (b := c) (by omega) (by omega)).mp c_6) (by omega)
  · have c_6 : ¬ 40 ≤ c := fun h9 => c_6 ((nI_leI (a := 40) (b := c) (by omega) (by omega)).mpr h9)
    refine g_aload_n hX 0 rfl dX0_type_9 rfl ?_
    refine cg_X0_firsts hX (by decide) rfl q_inX0 q_w2 rfl dX0_type_10 ?_
    refine g_aload_n hX 0 rfl dX0_type_13 rfl ?_
    refine cg_X0_count hX (by decide) rfl q_inX0 q_w1 dX0_type_14 ?_
    refine g_eqi (y := (nI c)) hc ?_
    refine g_iload_n hX 1 rfl dX0_type_17 rfl ?_
    refine c_iastk hX c (by decide) rfl (by show _ < (40 : Nat); omega) (by omega) dX0_type_18 ?_
    refine g_aload_n hX 0 rfl dX0_type_19 rfl ?_
    refine cg_X0_lengths hX (by decide) rfl q_inX0 q_w3 rfl dX0_type_20 ?_
    refine g_aload_n hX 0 rfl dX0_type_23 rfl ?_
    refine cg_X0_count hX (by decide) rfl q_inX0 q_w1 dX0_type_24 ?_
    refine g_eqi (y := I 2 3) ((up2_n (Or.inl (by omega)))) ?_
    refine g_eqi (y := (nI c)) hc ?_
    refine g_iload_n hX 2 rfl dX0_type_27 rfl ?_
    refine c_iastk hX c (by decide) rfl (by show _ < (40 : Nat); omega) (by omega) dX0_type_28 ?_
    refine g_aload_n hX 0 rfl dX0_type_29 rfl ?_
    refine cg_X0_pitches hX (by decide) rfl q_inX0 q_w4 rfl dX0_type_30 ?_
    refine g_aload_n hX 0 rfl dX0_type_33 rfl ?_
    refine cg_X0_count hX (by decide) rfl q_inX0 q_w1 dX0_type_34 ?_
    refine g_eqi (y := I 2 3) (((up2_n (Or.inl (by omega)))).trans ((up2_n (Or.inl (by omega))))) ?_
    refine g_eqi (y := (nI c)) hc ?_
    refine g_iload_n hX 3 rfl dX0_type_37 rfl ?_
    refine c_iastk hX c (by decide) rfl (by show _ < (40 : Nat); omega) (by omega) dX0_type_38 ?_
    refine g_aload_n hX 0 rfl dX0_type_39 rfl ?_
    refine g_dup hX dX0_type_40 rfl ?_
    refine cg_X0_count hX (by decide) rfl q_inX0 q_w1 dX0_type_41 ?_
    refine g_eqi (y := I 2 3) (((up2_n (Or.inl (by omega)))).trans (((up2_n (Or.inl (by omega)))).trans ((up2_n (Or.inl (by omega)))))) ?_
    refine g_eqi (y := (nI c)) hc ?_
    refine g_iconst hX (1) dX0_type_44 rfl ?_
    refine g_iadd hX dX0_type_45 ?_
    refine cp_X0_count hX (by decide) rfl q_inX0 q_w1 dX0_type_46 ?_
    refine g_aload_n hX 0 rfl dX0_type_49 rfl ?_
    refine cg_X0_count hX (by decide) rfl q_inX0 q_w1 dX0_type_50 ?_
    refine g_eqi (y := (nI c) + 1) (up2_s) ?_
    refine g_iret hX hE dX0_type_53 (by omega) (by omega) ?_
    exact ⟨_, rfl, rfl, rfl⟩
abbrev rm_X0_forgetAll : Room := { frames := 0, cells := 0, slots := 0, locals := 0 }
theorem hd_X0_forgetAll : yX0_forgetAll.cls = RX0 ∧ yX0_forgetAll.cls ≠ "java/lang/invoke/MethodHandle" ∧ yX0_forgetAll.cls ≠ "java/lang/invoke/VarHandle" ∧ (parseMethodDescriptor yX0_forgetAll.desc).map (fun d => d.parameters.length) = some 0 := by decide +kernel
set_option maxRecDepth 100000 in
set_option maxHeartbeats 4000000 in
theorem k_X0_forgetAll {D : va_G} {dT : Nat → ClassId} {ad : Nat → Nat} (I : Nat → Nat → Int32) : KI yX0_forgetAll wsX0_forgetAll rm_X0_forgetAll D dT ad I [.ref (ad 2)] (fun r J => up2 I 2 3 0 = J ∧ I 2 3 = r) := by
  intro l9
  refine ci_of (own := RX0) (cc := cX0_forgetAll) (maxL := 2) (some .int) [(0, .ref (ad 2))] (by decide) rfl rfl rfl (Nat.le_of_ble_eq_true rfl) ?_
  intro X hX hE hN
  have q_w1 : Cond.fieldLink RX0 21 "Perforatum$Music" "count" "I" ∈ wsX0_forgetAll := List.mem_of_getElem? (i := 1) rfl
  have q_inX0 : ∀ w ∈ wsX00, w ∈ wsX0_forgetAll := by decide +kernel
  refine g_aload_n hX 0 rfl dX0_forgetAll_0 rfl ?_
  refine cg_X0_count hX (by decide) rfl q_inX0 q_w1 dX0_forgetAll_1 ?_
  refine g_istore_n hX [(1, .int (I 2 3)), (0, .ref (ad 2))] rfl dX0_forgetAll_4 rfl (by decide) ?_
  refine g_aload_n hX 1 rfl dX0_forgetAll_5 rfl ?_
  refine g_iconst hX (0) dX0_forgetAll_6 rfl ?_
  refine cp_X0_count hX (by decide) rfl q_inX0 q_w1 dX0_forgetAll_7 ?_
  refine g_iload_n hX 0 rfl dX0_forgetAll_10 rfl ?_
  refine g_iret hX hE dX0_forgetAll_11 (by omega) (by omega) ?_
  exact ⟨_, rfl, rfl, rfl⟩
abbrev rm_X0_punchNote : Room := { frames := 1, cells := 0, slots := 0, locals := 24 }
theorem hd_X0_punchNote : yX0_punchNote.cls = RX0 ∧ yX0_punchNote.cls ≠ "java/lang/invoke/MethodHandle" ∧ yX0_punchNote.cls ≠ "java/lang/invoke/VarHandle" ∧ (parseMethodDescriptor yX0_punchNote.desc).map (fun d => d.parameters.length) = some 3 := by decide +kernel
set_option maxRecDepth 100000 in
set_option maxHeartbeats 4000000 in
theorem k_X0_punchNote {D : va_G} {dT : Nat → ClassId} {ad : Nat → Nat} (I : Nat → Nat → Int32) (i : Nat) (hi : i < 4) (n : Nat) (hn : n < 40) (len : Nat) (hl : len ≤ 200) (hlen : I 13 n = nI len) (br : Int32) : KV yX0_punchNote wsX0_punchNote rm_X0_punchNote D dT ad I [.ref (ad 2), .ref (ad (4 + i)), .int (nI n), .int br] (fun J => pnt I i n br len len = J) := by
  intro l9
  refine cv_of (own := RX0) (cc := cX0_punchNote) (maxL := 7) [(0, .ref (ad 2)), (1, .ref (ad (4 + i))), (2, .int (nI n)), (3, .int br)] (by decide) rfl rfl rfl (Nat.le_of_ble_eq_true rfl) ?_
  intro X hX hE hN
  have q_w1 : Cond.fieldLink RX0 15 "Perforatum$Music" "lengths" "[I" ∈ wsX0_punchNote := List.mem_of_getElem? (i := 1) rfl
  have q_inX0 : ∀ w ∈ wsX00, w ∈ wsX0_punchNote := by decide +kernel
  have q_w2 : Cond.fieldLink RX0 9 "Perforatum$Music" "firsts" "[I" ∈ wsX0_punchNote := List.mem_of_getElem? (i := 2) rfl
  have q_w3 : Cond.fieldLink RX0 18 "Perforatum$Music" "pitches" "[I" ∈ wsX0_punchNote := List.mem_of_getElem? (i := 3) rfl
  refine g_aload_n hX 0 rfl dX0_punchNote_0 rfl ?_
  refine cg_X0_lengths hX (by decide) rfl q_inX0 q_w1 rfl dX0_punchNote_1 ?_
  refine g_iload_n hX 2 rfl dX0_punchNote_4 rfl ?_
  refine c_ialdk hX n (by decide) rfl (by show _ < (40 : Nat); omega) (by omega) dX0_punchNote_5 ?_
  refine g_eqi (y := (nI len)) hlen ?_
  refine g_istore hX [(4, .int (nI len)), (0, .ref (ad 2)), (1, .ref (ad (4 + i))), (2, .int (nI n)), (3, .int br)] rfl dX0_punchNote_6 (by decide) ?_
  refine g_iconst hX (0) dX0_punchNote_8 rfl ?_
  refine g_istore hX [(5, .int 0), (4, .int (nI len)), (0, .ref (ad 2)), (1, .ref (ad (4 + i))), (2, .int (nI n)), (3, .int br)] rfl dX0_punchNote_9 (by decide) ?_
  have lp_11 : ∀ (n9 : Nat) (k : Nat) (J : Nat → Nat → Int32), len - k < n9 → k ≤ len → J = pnt I i n br len k → CG X D dT ad J [(5, .int (nI k)), (4, .int (nI len)), (0, .ref (ad 2)), (1, .ref (ad (4 + i))), (2, .int (nI n)), (3, .int br)] 0 0 11 [] := by
    intro n9
    induction n9 with
    | zero => intro k J h9; exact absurd h9 (Nat.not_lt_zero _)
    | succ n9 ih9 =>
      intro k J h9 hk hJ
      have ih_11 := ih9
      have h12 : J 12 = I 12 := by rw [hJ]; exact pnt_row (by omega) k
      have h14 : J 14 = I 14 := by rw [hJ]; exact pnt_row (by omega) k
      refine g_iload hX 0 rfl dX0_punchNote_11 ?_
      refine g_iload hX 1 rfl dX0_punchNote_13 ?_
      refine g_icmp_ge (tgt := 77) hX dX0_punchNote_15 (by decide) (fun c_15 => ?_) (fun c_15 => ?_)
      · have c_15 : len ≤ k := (nI_leI (a := len) (b := k) (by omega) (by omega)).mp c_15
        refine g_vret hX hE dX0_punchNote_77 (by omega) (by omega) ?_
        exact ⟨_, rfl, by rw [hJ, show k = len by omega]⟩
      · have c_15 : ¬ len ≤ k := fun h9 => c_15 ((nI_leI (a := len) (b := k) (by omega) (by omega)).mpr h9)
        refine g_iload_n hX 5 rfl dX0_punchNote_18 rfl ?_
        refine g_if_eq (tgt := 43) hX dX0_punchNote_19 (by decide) (fun c_19 => ?_) (fun c_19 => ?_)
        · refine g_iconst hX (0) dX0_punchNote_43 rfl ?_
          refine g_istore hX [(6, .int 0), (5, .int (nI k)), (4, .int (nI len)), (0, .ref (ad 2)), (1, .ref (ad (4 + i))), (2, .int (nI n)), (3, .int br)] rfl dX0_punchNote_44 (by decide) ?_
          refine g_iload hX 0 rfl dX0_punchNote_46 ?_
          refine g_if_ne (tgt := 71) hX dX0_punchNote_48 (by decide) (fun c_48 => ?_) (fun c_48 => ?_)
          · first | exact absurd c_48 (by decide) | exact absurd (by decide) c_48
          · refine g_aload_n hX 4 rfl dX0_punchNote_51 rfl ?_
            refine g_aload_n hX 3 rfl dX0_punchNote_52 rfl ?_
            refine cg_X0_firsts hX (by decide) rfl q_inX0 q_w2 rfl dX0_punchNote_53 ?_
            refine g_iload_n hX 5 rfl dX0_punchNote_56 rfl ?_
            refine c_ialdk hX n (by decide) rfl (by show _ < (40 : Nat); omega) (by omega) dX0_punchNote_57 ?_
            refine g_eqi (y := (I 12 n)) (congrFun h12 n) ?_
            refine g_iload hX 1 rfl dX0_punchNote_58 ?_
            refine g_iadd hX dX0_punchNote_60 ?_
            refine g_aload_n hX 3 rfl dX0_punchNote_61 rfl ?_
            refine cg_X0_pitches hX (by decide) rfl q_inX0 q_w3 rfl dX0_punchNote_62 ?_
            refine g_iload_n hX 5 rfl dX0_punchNote_65 rfl ?_
            refine c_ialdk hX n (by decide) rfl (by show _ < (40 : Nat); omega) (by omega) dX0_punchNote_66 ?_
            refine g_eqi (y := (I 14 n)) (congrFun h14 n) ?_
            refine g_iconst hX (1) dX0_punchNote_67 rfl ?_
            refine c_callV_V hX [.int ((I 12 n) + (nI k)), .int (I 14 n), .int 1] 5 (by omega) (cK_p hi) (by decide) rfl (k_X1_putHole J i hi ((I 12 n) + (nI k)) (I 14 n) 1) gX0_punchNote_X1_putHole rfl rfl rfl hd_X1_putHole ⟨Nat.le_of_ble_eq_true rfl, Nat.le_of_ble_eq_true rfl⟩ ⟨Nat.zero_le _, Nat.zero_le _⟩ rfl (Nat.le_of_ble_eq_true rfl) dX0_punchNote_68 (fun J_68 h_68 => ?_)
            subst h_68
            refine g_iinc hX (nI (k + 1)) [(5, .int (nI (k + 1))), (6, .int 0), (4, .int (nI len)), (0, .ref (ad 2)), (1, .ref (ad (4 + i))), (2, .int (nI n)), (3, .int br)] (k := 1) rfl (g_inc k) rfl dX0_punchNote_71 (by decide) ?_
            refine g_goto (tgt := 11) hX dX0_punchNote_74 (by decide) ?_
            refine g_lv [0, 2, 3, 4, 5, 6] rfl ?_
            exact ih_11 (k + 1) (ph J i ((I 12 n) + (nI k)) (I 14 n) 1) (by omega) (by omega) (by rw [hJ, pnt, pnb]; simp only [c_19, if_true, if_false])
        · refine g_iload hX 0 rfl dX0_punchNote_22 ?_
          refine g_iconst hX (4) dX0_punchNote_24 rfl ?_
          refine g_irem hX dX0_punchNote_25 (by decide) ?_
          refine g_iconst hX (3) dX0_punchNote_26 rfl ?_
          refine g_icmp_ne (tgt := 43) hX dX0_punchNote_27 (by decide) (fun c_27 => ?_) (fun c_27 => ?_)
          · refine g_iconst hX (0) dX0_punchNote_43 rfl ?_
            refine g_istore hX [(6, .int 0), (5, .int (nI k)), (4, .int (nI len)), (0, .ref (ad 2)), (1, .ref (ad (4 + i))), (2, .int (nI n)), (3, .int br)] rfl dX0_punchNote_44 (by decide) ?_
            refine g_iload hX 0 rfl dX0_punchNote_46 ?_
            refine g_if_ne (tgt := 71) hX dX0_punchNote_48 (by decide) (fun c_48 => ?_) (fun c_48 => ?_)
            · first | exact absurd c_48 (by decide) | exact absurd (by decide) c_48
            · refine g_aload_n hX 4 rfl dX0_punchNote_51 rfl ?_
              refine g_aload_n hX 3 rfl dX0_punchNote_52 rfl ?_
              refine cg_X0_firsts hX (by decide) rfl q_inX0 q_w2 rfl dX0_punchNote_53 ?_
              refine g_iload_n hX 5 rfl dX0_punchNote_56 rfl ?_
              refine c_ialdk hX n (by decide) rfl (by show _ < (40 : Nat); omega) (by omega) dX0_punchNote_57 ?_
              refine g_eqi (y := (I 12 n)) (congrFun h12 n) ?_
              refine g_iload hX 1 rfl dX0_punchNote_58 ?_
              refine g_iadd hX dX0_punchNote_60 ?_
              refine g_aload_n hX 3 rfl dX0_punchNote_61 rfl ?_
              refine cg_X0_pitches hX (by decide) rfl q_inX0 q_w3 rfl dX0_punchNote_62 ?_
              refine g_iload_n hX 5 rfl dX0_punchNote_65 rfl ?_
              refine c_ialdk hX n (by decide) rfl (by show _ < (40 : Nat); omega) (by omega) dX0_punchNote_66 ?_
              refine g_eqi (y := (I 14 n)) (congrFun h14 n) ?_
              refine g_iconst hX (1) dX0_punchNote_67 rfl ?_
              refine c_callV_V hX [.int ((I 12 n) + (nI k)), .int (I 14 n), .int 1] 5 (by omega) (cK_p hi) (by decide) rfl (k_X1_putHole J i hi ((I 12 n) + (nI k)) (I 14 n) 1) gX0_punchNote_X1_putHole rfl rfl rfl hd_X1_putHole ⟨Nat.le_of_ble_eq_true rfl, Nat.le_of_ble_eq_true rfl⟩ ⟨Nat.zero_le _, Nat.zero_le _⟩ rfl (Nat.le_of_ble_eq_true rfl) dX0_punchNote_68 (fun J_68 h_68 => ?_)
              subst h_68
              refine g_iinc hX (nI (k + 1)) [(5, .int (nI (k + 1))), (6, .int 0), (4, .int (nI len)), (0, .ref (ad 2)), (1, .ref (ad (4 + i))), (2, .int (nI n)), (3, .int br)] (k := 1) rfl (g_inc k) rfl dX0_punchNote_71 (by decide) ?_
              refine g_goto (tgt := 11) hX dX0_punchNote_74 (by decide) ?_
              refine g_lv [0, 2, 3, 4, 5, 6] rfl ?_
              exact ih_11 (k + 1) (ph J i ((I 12 n) + (nI k)) (I 14 n) 1) (by omega) (by omega) (by rw [hJ, pnt, pnb]; simp only [c_19, c_27, if_true, if_false])
          · refine g_iload hX 0 rfl dX0_punchNote_30 ?_
            refine g_iload hX 1 rfl dX0_punchNote_32 ?_
            refine g_iconst hX (1) dX0_punchNote_34 rfl ?_
            refine g_isub hX dX0_punchNote_35 ?_
            refine g_icmp_ge (tgt := 43) hX dX0_punchNote_36 (by decide) (fun c_36 => ?_) (fun c_36 => ?_)
            · refine g_iconst hX (0) dX0_punchNote_43 rfl ?_
              refine g_istore hX [(6, .int 0), (5, .int (nI k)), (4, .int (nI len)), (0, .ref (ad 2)), (1, .ref (ad (4 + i))), (2, .int (nI n)), (3, .int br)] rfl dX0_punchNote_44 (by decide) ?_
              refine g_iload hX 0 rfl dX0_punchNote_46 ?_
              refine g_if_ne (tgt := 71) hX dX0_punchNote_48 (by decide) (fun c_48 => ?_) (fun c_48 => ?_)
              · first | exact absurd c_48 (by decide) | exact absurd (by decide) c_48
              · refine g_aload_n hX 4 rfl dX0_punchNote_51 rfl ?_
                refine g_aload_n hX 3 rfl dX0_punchNote_52 rfl ?_
                refine cg_X0_firsts hX (by decide) rfl q_inX0 q_w2 rfl dX0_punchNote_53 ?_
                refine g_iload_n hX 5 rfl dX0_punchNote_56 rfl ?_
                refine c_ialdk hX n (by decide) rfl (by show _ < (40 : Nat); omega) (by omega) dX0_punchNote_57 ?_
                refine g_eqi (y := (I 12 n)) (congrFun h12 n) ?_
                refine g_iload hX 1 rfl dX0_punchNote_58 ?_
                refine g_iadd hX dX0_punchNote_60 ?_
                refine g_aload_n hX 3 rfl dX0_punchNote_61 rfl ?_
                refine cg_X0_pitches hX (by decide) rfl q_inX0 q_w3 rfl dX0_punchNote_62 ?_
                refine g_iload_n hX 5 rfl dX0_punchNote_65 rfl ?_
                refine c_ialdk hX n (by decide) rfl (by show _ < (40 : Nat); omega) (by omega) dX0_punchNote_66 ?_
                refine g_eqi (y := (I 14 n)) (congrFun h14 n) ?_
                refine g_iconst hX (1) dX0_punchNote_67 rfl ?_
                refine c_callV_V hX [.int ((I 12 n) + (nI k)), .int (I 14 n), .int 1] 5 (by omega) (cK_p hi) (by decide) rfl (k_X1_putHole J i hi ((I 12 n) + (nI k)) (I 14 n) 1) gX0_punchNote_X1_putHole rfl rfl rfl hd_X1_putHole ⟨Nat.le_of_ble_eq_true rfl, Nat.le_of_ble_eq_true rfl⟩ ⟨Nat.zero_le _, Nat.zero_le _⟩ rfl (Nat.le_of_ble_eq_true rfl) dX0_punchNote_68 (fun J_68 h_68 => ?_)
                subst h_68
                refine g_iinc hX (nI (k + 1)) [(5, .int (nI (k + 1))), (6, .int 0), (4, .int (nI len)), (0, .ref (ad 2)), (1, .ref (ad (4 + i))), (2, .int (nI n)), (3, .int br)] (k := 1) rfl (g_inc k) rfl dX0_punchNote_71 (by decide) ?_
                refine g_goto (tgt := 11) hX dX0_punchNote_74 (by decide) ?_
                refine g_lv [0, 2, 3, 4, 5, 6] rfl ?_
                exact ih_11 (k + 1) (ph J i ((I 12 n) + (nI k)) (I 14 n) 1) (by omega) (by omega) (by rw [hJ, pnt, pnb]; simp only [c_19, c_27, c_36, if_true, if_false])
            · refine g_iconst hX (1) dX0_punchNote_39 rfl ?_
              refine g_goto (tgt := 44) hX dX0_punchNote_40 (by decide) ?_
              refine g_istore hX [(6, .int 1), (5, .int (nI k)), (4, .int (nI len)), (0, .ref (ad 2)), (1, .ref (ad (4 + i))), (2, .int (nI n)), (3, .int br)] rfl dX0_punchNote_44 (by decide) ?_
              refine g_iload hX 0 rfl dX0_punchNote_46 ?_
              refine g_if_ne (tgt := 71) hX dX0_punchNote_48 (by decide) (fun c_48 => ?_) (fun c_48 => ?_)
              · refine g_iinc hX (nI (k + 1)) [(5, .int (nI (k + 1))), (6, .int 1), (4, .int (nI len)), (0, .ref (ad 2)), (1, .ref (ad (4 + i))), (2, .int (nI n)), (3, .int br)] (k := 1) rfl (g_inc k) rfl dX0_punchNote_71 (by decide) ?_
                refine g_goto (tgt := 11) hX dX0_punchNote_74 (by decide) ?_
                refine g_lv [0, 2, 3, 4, 5, 6] rfl ?_
                exact ih_11 (k + 1) J (by omega) (by omega) (by rw [hJ, pnt, pnb]; simp only [c_19, c_27, c_36, if_true, if_false]; exact (if_neg (show ¬ (1 : Int32) = 0 by decide)).symm)
              · first | exact absurd c_48 (by decide) | exact absurd (by decide) c_48
  refine g_lv [0, 1, 2, 3, 4, 5] rfl ?_
  exact lp_11 _ 0 I (Nat.lt_succ_self _) (Nat.zero_le _) rfl
abbrev rm_X0_punchInto : Room := { frames := 2, cells := 0, slots := 0, locals := 50 }
theorem hd_X0_punchInto : yX0_punchInto.cls = RX0 ∧ yX0_punchInto.cls ≠ "java/lang/invoke/MethodHandle" ∧ yX0_punchInto.cls ≠ "java/lang/invoke/VarHandle" ∧ (parseMethodDescriptor yX0_punchInto.desc).map (fun d => d.parameters.length) = some 2 := by decide +kernel
set_option maxRecDepth 100000 in
set_option maxHeartbeats 4000000 in
theorem k_X0_punchInto {D : va_G} {dT : Nat → ClassId} {ad : Nat → Nat} (I : Nat → Nat → Int32) (i : Nat) (hi : i < 4) (c : Nat) (hc : I 2 3 = nI c) (h40 : c ≤ 40) (ln : Nat → Nat) (hln : ∀ n, n < c → I 13 n = nI (ln n) ∧ ln n ≤ 200) (br : Int32) : KV yX0_punchInto wsX0_punchInto rm_X0_punchInto D dT ad I [.ref (ad 2), .ref (ad (4 + i)), .int br] (fun J => pall I i br ln c = J) := by
  intro l9
  refine cv_of (own := RX0) (cc := cX0_punchInto) (maxL := 4) [(0, .ref (ad 2)), (1, .ref (ad (4 + i))), (2, .int br)] (by decide) rfl rfl rfl (Nat.le_of_ble_eq_true rfl) ?_
  intro X hX hE hN
  have q_w1 : Cond.fieldLink RX0 21 "Perforatum$Music" "count" "I" ∈ wsX0_punchInto := List.mem_of_getElem? (i := 1) rfl
  have q_inX0 : ∀ w ∈ wsX00, w ∈ wsX0_punchInto := by decide +kernel
  refine g_iconst hX (0) dX0_punchInto_0 rfl ?_
  refine g_istore_n hX [(3, .int 0), (0, .ref (ad 2)), (1, .ref (ad (4 + i))), (2, .int br)] rfl dX0_punchInto_1 rfl (by decide) ?_
  have lp_2 : ∀ (n9 : Nat) (k : Nat) (J : Nat → Nat → Int32), c - k < n9 → k ≤ c → J = pall I i br ln k → CG X D dT ad J [(3, .int (nI k)), (0, .ref (ad 2)), (1, .ref (ad (4 + i))), (2, .int br)] 0 0 2 [] := by
    intro n9
    induction n9 with
    | zero => intro k J h9; exact absurd h9 (Nat.not_lt_zero _)
    | succ n9 ih9 =>
      intro k J h9 hk hJ
      have ih_2 := ih9
      have h2 : J 2 = I 2 := by rw [hJ]; exact pall_row (by omega) k
      have h13 : J 13 = I 13 := by rw [hJ]; exact pall_row (by omega) k
      refine g_iload_n hX 0 rfl dX0_punchInto_2 rfl ?_
      refine g_aload_n hX 1 rfl dX0_punchInto_3 rfl ?_
      refine cg_X0_count hX (by decide) rfl q_inX0 q_w1 dX0_punchInto_4 ?_
      refine g_eqi (y := (nI c)) ((congrFun h2 3).trans hc) ?_
      refine g_icmp_ge (tgt := 23) hX dX0_punchInto_7 (by decide) (fun c_7 => ?_) (fun c_7 => ?_)
      · have c_7 : c ≤ k := (nI_leI (a := c) (b := k) (by omega) (by omega)).mp c_7
        refine g_vret hX hE dX0_punchInto_23 (by omega) (by omega) ?_
        exact ⟨_, rfl, by rw [hJ, show k = c by omega]⟩
      · have c_7 : ¬ c ≤ k := fun h9 => c_7 ((nI_leI (a := c) (b := k) (by omega) (by omega)).mpr h9)
        refine g_aload_n hX 1 rfl dX0_punchInto_10 rfl ?_
        refine g_aload_n hX 2 rfl dX0_punchInto_11 rfl ?_
        refine g_iload_n hX 0 rfl dX0_punchInto_12 rfl ?_
        refine g_iload_n hX 3 rfl dX0_punchInto_13 rfl ?_
        refine c_callV_V hX [.ref (ad (4 + i)), .int (nI k), .int br] 4 (by decide) rfl (by decide) rfl (k_X0_punchNote J i hi k (by omega) (ln k) (hln k (by omega)).2 ((congrFun h13 k).trans (hln k (by omega)).1) br) gX0_punchInto_X0_punchNote rfl rfl rfl hd_X0_punchNote ⟨Nat.le_of_ble_eq_true rfl, Nat.le_of_ble_eq_true rfl⟩ ⟨Nat.zero_le _, Nat.zero_le _⟩ rfl (Nat.le_of_ble_eq_true rfl) dX0_punchInto_14 (fun J_14 h_14 => ?_)
        subst h_14
        refine g_iinc hX (nI (k + 1)) [(3, .int (nI (k + 1))), (0, .ref (ad 2)), (1, .ref (ad (4 + i))), (2, .int br)] (k := 0) rfl (g_inc k) rfl dX0_punchInto_17 (by decide) ?_
        refine g_goto (tgt := 2) hX dX0_punchInto_20 (by decide) ?_
        refine g_lv [0, 1, 2, 3] rfl ?_
        exact ih_2 (k + 1) (pnt J i k br (ln k) (ln k)) (by omega) (by omega) (by rw [hJ]; rfl)
  refine g_lv [0, 1, 2, 3] rfl ?_
  exact lp_2 _ 0 I (Nat.lt_succ_self _) (Nat.zero_le _) rfl
abbrev rm_X0_isScannedFrom : Room := { frames := 3, cells := 0, slots := 0, locals := 67 }
theorem hd_X0_isScannedFrom : yX0_isScannedFrom.cls = RX0 ∧ yX0_isScannedFrom.cls ≠ "java/lang/invoke/MethodHandle" ∧ yX0_isScannedFrom.cls ≠ "java/lang/invoke/VarHandle" ∧ (parseMethodDescriptor yX0_isScannedFrom.desc).map (fun d => d.parameters.length) = some 1 := by decide +kernel
set_option maxRecDepth 100000 in
set_option maxHeartbeats 4000000 in
theorem k_X0_isScannedFrom {D : va_G} {dT : Nat → ClassId} {ad : Nat → Nat} (I : Nat → Nat → Int32) (i : Nat) (hi : i < 4) (c : Nat) (hc : I 2 3 = nI c) (h40 : c ≤ 40) (fa : Nat → Nat) (hfa : ∀ n, n < c → I 12 n = nI (fa n) ∧ fa n < 200) : KI yX0_isScannedFrom wsX0_isScannedFrom rm_X0_isScannedFrom D dT ad I [.ref (ad 2), .ref (ad (4 + i))] (fun r J => I = J ∧ iscn I i c fa = r) := by
  intro l9
  refine ci_of (own := RX0) (cc := cX0_isScannedFrom) (maxL := 3) (some .boolean) [(0, .ref (ad 2)), (1, .ref (ad (4 + i)))] (by decide) rfl rfl rfl (Nat.le_of_ble_eq_true rfl) ?_
  intro X hX hE hN
  have q_w1 : Cond.fieldLink RX0 21 "Perforatum$Music" "count" "I" ∈ wsX0_isScannedFrom := List.mem_of_getElem? (i := 1) rfl
  have q_inX0 : ∀ w ∈ wsX00, w ∈ wsX0_isScannedFrom := by decide +kernel
  have q_w2 : Cond.fieldLink RX0 9 "Perforatum$Music" "firsts" "[I" ∈ wsX0_isScannedFrom := List.mem_of_getElem? (i := 2) rfl
  have q_w3 : Cond.fieldLink RX0 18 "Perforatum$Music" "pitches" "[I" ∈ wsX0_isScannedFrom := List.mem_of_getElem? (i := 3) rfl
  have q_w4 : Cond.fieldLink RX0 15 "Perforatum$Music" "lengths" "[I" ∈ wsX0_isScannedFrom := List.mem_of_getElem? (i := 4) rfl
  refine g_aload_n hX 1 rfl dX0_isScannedFrom_0 rfl ?_
  refine c_callI_V hX [] 5 (by omega) (cK_p hi) (by decide) rfl (k_X1_countNotes I i hi) gX0_isScannedFrom_X1_countNotes rfl rfl rfl hd_X1_countNotes ⟨Nat.le_of_ble_eq_true rfl, Nat.le_of_ble_eq_true rfl⟩ ⟨Nat.zero_le _, Nat.zero_le _⟩ rfl (Nat.le_of_ble_eq_true rfl) dX0_isScannedFrom_1 (fun r_1 J_1 h_1 => ?_)
  obtain ⟨rfl, rfl⟩ := h_1
  refine g_aload_n hX 0 rfl dX0_isScannedFrom_4 rfl ?_
  refine cg_X0_count hX (by decide) rfl q_inX0 q_w1 dX0_isScannedFrom_5 ?_
  refine g_eqi (y := (nI c)) hc ?_
  refine g_icmp_eq (tgt := 13) hX dX0_isScannedFrom_8 (by decide) (fun c_8 => ?_) (fun c_8 => ?_)
  · refine g_iconst hX (0) dX0_isScannedFrom_13 rfl ?_
    refine g_istore_n hX [(2, .int 0), (0, .ref (ad 2)), (1, .ref (ad (4 + i)))] rfl dX0_isScannedFrom_14 rfl (by decide) ?_
    have lp_15 : ∀ (n9 : Nat) (k : Nat), c - k < n9 → k ≤ c → isc I i fa c 0 = isc I i fa (c - k) k → CG X D dT ad I [(2, .int (nI k)), (0, .ref (ad 2)), (1, .ref (ad (4 + i)))] 0 0 15 [] := by
      intro n9
      induction n9 with
      | zero => intro k h9; exact absurd h9 (Nat.not_lt_zero _)
      | succ n9 ih9 =>
        intro k h9 hk hs
        have ih_15 := ih9
        refine g_iload_n hX 0 rfl dX0_isScannedFrom_15 rfl ?_
        refine g_aload_n hX 1 rfl dX0_isScannedFrom_16 rfl ?_
        refine cg_X0_count hX (by decide) rfl q_inX0 q_w1 dX0_isScannedFrom_17 ?_
        refine g_eqi (y := (nI c)) hc ?_
        refine g_icmp_ge (tgt := 75) hX dX0_isScannedFrom_20 (by decide) (fun c_20 => ?_) (fun c_20 => ?_)
        · have c_20 : c ≤ k := (nI_leI (a := c) (b := k) (by omega) (by omega)).mp c_20
          refine g_iconst hX (1) dX0_isScannedFrom_75 rfl ?_
          refine g_zret hX rfl hE dX0_isScannedFrom_76 (by omega) (by omega) ?_
          exact ⟨_, rfl, rfl, by rw [iscn, if_pos c_8, hs, show c - k = 0 by omega]; rfl⟩
        · have c_20 : ¬ c ≤ k := fun h9 => c_20 ((nI_leI (a := c) (b := k) (by omega) (by omega)).mpr h9)
          refine g_aload_n hX 2 rfl dX0_isScannedFrom_23 rfl ?_
          refine g_aload_n hX 1 rfl dX0_isScannedFrom_24 rfl ?_
          refine cg_X0_firsts hX (by decide) rfl q_inX0 q_w2 rfl dX0_isScannedFrom_25 ?_
          refine g_iload_n hX 0 rfl dX0_isScannedFrom_28 rfl ?_
          refine c_ialdk hX k (by decide) rfl (by show _ < (40 : Nat); omega) (by omega) dX0_isScannedFrom_29 ?_
          refine g_eqi (y := (nI (fa k))) (hfa k (by omega)).1 ?_
          refine g_aload_n hX 1 rfl dX0_isScannedFrom_30 rfl ?_
          refine cg_X0_pitches hX (by decide) rfl q_inX0 q_w3 rfl dX0_isScannedFrom_31 ?_
          refine g_iload_n hX 0 rfl dX0_isScannedFrom_34 rfl ?_
          refine c_ialdk hX k (by decide) rfl (by show _ < (40 : Nat); omega) (by omega) dX0_isScannedFrom_35 ?_
          refine c_callI_V hX [.int (nI (fa k)), .int (I 14 k)] 5 (by omega) (cK_p hi) (by decide) rfl (k_X1_isBeginning I i hi (nI (fa k)) (I 14 k)) gX0_isScannedFrom_X1_isBeginning rfl rfl rfl hd_X1_isBeginning ⟨Nat.le_of_ble_eq_true rfl, Nat.le_of_ble_eq_true rfl⟩ ⟨Nat.zero_le _, Nat.zero_le _⟩ rfl (Nat.le_of_ble_eq_true rfl) dX0_isScannedFrom_36 (fun r_36 J_36 h_36 => ?_)
          obtain ⟨rfl, rfl⟩ := h_36
          refine g_if_eq (tgt := 67) hX dX0_isScannedFrom_39 (by decide) (fun c_39 => ?_) (fun c_39 => ?_)
          · refine g_iconst hX (0) dX0_isScannedFrom_67 rfl ?_
            refine g_zret hX rfl hE dX0_isScannedFrom_68 (by omega) (by omega) ?_
            exact ⟨_, rfl, rfl, by rw [iscn, if_pos c_8, hs, show c - k = (c - (k + 1)) + 1 by omega, isc, if_pos c_39]⟩
          · refine g_aload_n hX 2 rfl dX0_isScannedFrom_42 rfl ?_
            refine g_aload_n hX 1 rfl dX0_isScannedFrom_43 rfl ?_
            refine cg_X0_firsts hX (by decide) rfl q_inX0 q_w2 rfl dX0_isScannedFrom_44 ?_
            refine g_iload_n hX 0 rfl dX0_isScannedFrom_47 rfl ?_
            refine c_ialdk hX k (by decide) rfl (by show _ < (40 : Nat); omega) (by omega) dX0_isScannedFrom_48 ?_
            refine g_eqi (y := (nI (fa k))) (hfa k (by omega)).1 ?_
            refine g_aload_n hX 1 rfl dX0_isScannedFrom_49 rfl ?_
            refine cg_X0_pitches hX (by decide) rfl q_inX0 q_w3 rfl dX0_isScannedFrom_50 ?_
            refine g_iload_n hX 0 rfl dX0_isScannedFrom_53 rfl ?_
            refine c_ialdk hX k (by decide) rfl (by show _ < (40 : Nat); omega) (by omega) dX0_isScannedFrom_54 ?_
            refine c_callI_V hX [.int (nI (fa k)), .int (I 14 k)] 5 (by omega) (cK_p hi) (by decide) rfl (k_X1_measureNote I i hi (fa k) (hfa k (by omega)).2 (I 14 k)) gX0_isScannedFrom_X1_measureNote rfl rfl rfl hd_X1_measureNote ⟨Nat.le_of_ble_eq_true rfl, Nat.le_of_ble_eq_true rfl⟩ ⟨Nat.zero_le _, Nat.zero_le _⟩ rfl (Nat.le_of_ble_eq_true rfl) dX0_isScannedFrom_55 (fun r_55 J_55 h_55 => ?_)
            obtain ⟨rfl, rfl⟩ := h_55
            refine g_aload_n hX 1 rfl dX0_isScannedFrom_58 rfl ?_
            refine cg_X0_lengths hX (by decide) rfl q_inX0 q_w4 rfl dX0_isScannedFrom_59 ?_
            refine g_iload_n hX 0 rfl dX0_isScannedFrom_62 rfl ?_
            refine c_ialdk hX k (by decide) rfl (by show _ < (40 : Nat); omega) (by omega) dX0_isScannedFrom_63 ?_
            refine g_icmp_eq (tgt := 69) hX dX0_isScannedFrom_64 (by decide) (fun c_64 => ?_) (fun c_64 => ?_)
            · refine g_iinc hX (nI (k + 1)) [(2, .int (nI (k + 1))), (0, .ref (ad 2)), (1, .ref (ad (4 + i)))] (k := 0) rfl (g_inc k) rfl dX0_isScannedFrom_69 (by decide) ?_
              refine g_goto (tgt := 15) hX dX0_isScannedFrom_72 (by decide) ?_
              refine g_lv [0, 1, 2] rfl ?_
              exact ih_15 (k + 1) (by omega) (by omega) (hs.trans (by rw [show c - k = (c - (k + 1)) + 1 by omega, isc, if_neg c_39, if_pos c_64]))
            · refine g_iconst hX (0) dX0_isScannedFrom_67 rfl ?_
              refine g_zret hX rfl hE dX0_isScannedFrom_68 (by omega) (by omega) ?_
              exact ⟨_, rfl, rfl, by rw [iscn, if_pos c_8, hs, show c - k = (c - (k + 1)) + 1 by omega, isc, if_neg c_39, if_neg c_64]⟩
    refine g_lv [0, 1, 2] rfl ?_
    exact lp_15 _ 0 (Nat.lt_succ_self _) (Nat.zero_le _) rfl
  · refine g_iconst hX (0) dX0_isScannedFrom_11 rfl ?_
    refine g_zret hX rfl hE dX0_isScannedFrom_12 (by omega) (by omega) ?_
    exact ⟨_, rfl, rfl, by rw [iscn, if_neg c_8]⟩
abbrev rm_X3_findMost : Room := { frames := 0, cells := 0, slots := 0, locals := 0 }
theorem hd_X3_findMost : yX3_findMost.cls = RX3 ∧ yX3_findMost.cls ≠ "java/lang/invoke/MethodHandle" ∧ yX3_findMost.cls ≠ "java/lang/invoke/VarHandle" ∧ (parseMethodDescriptor yX3_findMost.desc).map (fun d => d.parameters.length) = some 1 := by decide +kernel
set_option maxRecDepth 100000 in
set_option maxHeartbeats 4000000 in
theorem k_X3_findMost {D : va_G} {dT : Nat → ClassId} {ad : Nat → Nat} (I : Nat → Nat → Int32) (w : Int32) : KI yX3_findMost wsX3_findMost rm_X3_findMost D dT ad I [.ref (ad 15), .int w] (fun r J => I = J ∧ fmo w = r) := by
  intro l9
  refine ci_of (own := RX3) (cc := cX3_findMost) (maxL := 2) (some .int) [(0, .ref (ad 15)), (1, .int w)] (by decide) rfl rfl rfl (Nat.le_of_ble_eq_true rfl) ?_
  intro X hX hE hN
  refine g_iload_n hX 1 rfl dX3_findMost_0 rfl ?_
  refine g_bipush hX (103) dX3_findMost_1 rfl ?_
  refine g_icmp_ne (tgt := 8) hX dX3_findMost_3 (by decide) (fun c_3 => ?_) (fun c_3 => ?_)
  · refine g_iload_n hX 1 rfl dX3_findMost_8 rfl ?_
    refine g_bipush hX (108) dX3_findMost_9 rfl ?_
    refine g_icmp_ne (tgt := 18) hX dX3_findMost_11 (by decide) (fun c_11 => ?_) (fun c_11 => ?_)
    · refine g_iload_n hX 1 rfl dX3_findMost_18 rfl ?_
      refine g_bipush hX (112) dX3_findMost_19 rfl ?_
      refine g_icmp_ne (tgt := 28) hX dX3_findMost_21 (by decide) (fun c_21 => ?_) (fun c_21 => ?_)
      · refine g_iload_n hX 1 rfl dX3_findMost_28 rfl ?_
        refine g_bipush hX (107) dX3_findMost_29 rfl ?_
        refine g_icmp_ne (tgt := 39) hX dX3_findMost_31 (by decide) (fun c_31 => ?_) (fun c_31 => ?_)
        · refine g_iconst hX (-1) dX3_findMost_39 rfl ?_
          refine g_iret hX hE dX3_findMost_40 (by omega) (by omega) ?_
          exact ⟨_, rfl, rfl, by rw [fmo, if_neg c_3, if_neg c_11, if_neg c_21, if_neg c_31]⟩
        · refine g_bipush hX (99) dX3_findMost_34 rfl ?_
          refine g_goto (tgt := 40) hX dX3_findMost_36 (by decide) ?_
          refine g_iret hX hE dX3_findMost_40 (by omega) (by omega) ?_
          exact ⟨_, rfl, rfl, by rw [fmo, if_neg c_3, if_neg c_11, if_neg c_21, if_pos c_31]⟩
      · refine g_sipush hX (300) dX3_findMost_24 rfl ?_
        refine g_iret hX hE dX3_findMost_27 (by omega) (by omega) ?_
        exact ⟨_, rfl, rfl, by rw [fmo, if_neg c_3, if_neg c_11, if_pos c_21]⟩
    · refine g_sipush hX (999) dX3_findMost_14 rfl ?_
      refine g_iret hX hE dX3_findMost_17 (by omega) (by omega) ?_
      exact ⟨_, rfl, rfl, by rw [fmo, if_neg c_3, if_pos c_11]⟩
  · refine g_iconst hX (3) dX3_findMost_6 rfl ?_
    refine g_iret hX hE dX3_findMost_7 (by omega) (by omega) ?_
    exact ⟨_, rfl, rfl, by rw [fmo, if_pos c_3]⟩
abbrev rm_X3_exchange : Room := { frames := 0, cells := 0, slots := 0, locals := 0 }
theorem hd_X3_exchange : yX3_exchange.cls = RX3 ∧ yX3_exchange.cls ≠ "java/lang/invoke/MethodHandle" ∧ yX3_exchange.cls ≠ "java/lang/invoke/VarHandle" ∧ (parseMethodDescriptor yX3_exchange.desc).map (fun d => d.parameters.length) = some 2 := by decide +kernel
set_option maxRecDepth 100000 in
set_option maxHeartbeats 4000000 in
theorem k_X3_exchange {D : va_G} {dT : Nat → ClassId} {ad : Nat → Nat} (I : Nat → Nat → Int32) (w n : Int32) : KI yX3_exchange wsX3_exchange rm_X3_exchange D dT ad I [.ref (ad 15), .int w, .int n] (fun r J => exI I w n = J ∧ exR I w = r) := by
  intro l9
  refine ci_of (own := RX3) (cc := cX3_exchange) (maxL := 4) (some .int) [(0, .ref (ad 15)), (1, .int w), (2, .int n)] (by decide) rfl rfl rfl (Nat.le_of_ble_eq_true rfl) ?_
  intro X hX hE hN
  have q_w4 : Cond.fieldLink RX3 21 "Perforatum$Settings" "leak" "I" ∈ wsX3_exchange := List.mem_of_getElem? (i := 4) rfl
  have q_inX3 : ∀ w ∈ wsX30, w ∈ wsX3_exchange := by decide +kernel
  have q_w3 : Cond.fieldLink RX3 18 "Perforatum$Settings" "pump" "I" ∈ wsX3_exchange := List.mem_of_getElem? (i := 3) rfl
  have q_w2 : Cond.fieldLink RX3 15 "Perforatum$Settings" "least" "I" ∈ wsX3_exchange := List.mem_of_getElem? (i := 2) rfl
  have q_w1 : Cond.fieldLink RX3 9 "Perforatum$Settings" "gap" "I" ∈ wsX3_exchange := List.mem_of_getElem? (i := 1) rfl
  refine g_iload_n hX 1 rfl dX3_exchange_0 rfl ?_
  refine g_bipush hX (103) dX3_exchange_1 rfl ?_
  refine g_icmp_ne (tgt := 19) hX dX3_exchange_3 (by decide) (fun c_3 => ?_) (fun c_3 => ?_)
  · refine g_iload_n hX 1 rfl dX3_exchange_19 rfl ?_
    refine g_bipush hX (108) dX3_exchange_20 rfl ?_
    refine g_icmp_ne (tgt := 38) hX dX3_exchange_22 (by decide) (fun c_22 => ?_) (fun c_22 => ?_)
    · refine g_iload_n hX 1 rfl dX3_exchange_38 rfl ?_
      refine g_bipush hX (112) dX3_exchange_39 rfl ?_
      refine g_icmp_ne (tgt := 57) hX dX3_exchange_41 (by decide) (fun c_41 => ?_) (fun c_41 => ?_)
      · refine g_aload_n hX 0 rfl dX3_exchange_57 rfl ?_
        refine cg_X3_leak hX (by decide) rfl q_inX3 q_w4 dX3_exchange_58 ?_
        refine g_istore_n hX [(3, .int (I 15 3)), (0, .ref (ad 15)), (1, .int w), (2, .int n)] rfl dX3_exchange_61 rfl (by decide) ?_
        refine g_aload_n hX 1 rfl dX3_exchange_62 rfl ?_
        refine g_iload_n hX 3 rfl dX3_exchange_63 rfl ?_
        refine cp_X3_leak hX (by decide) rfl q_inX3 q_w4 dX3_exchange_64 ?_
        refine g_iload_n hX 0 rfl dX3_exchange_67 rfl ?_
        refine g_iret hX hE dX3_exchange_68 (by omega) (by omega) ?_
        exact ⟨_, rfl, by rw [exI, if_neg c_3, if_neg c_22, if_neg c_41], by rw [exR, if_neg c_3, if_neg c_22, if_neg c_41]⟩
      · refine g_aload_n hX 0 rfl dX3_exchange_44 rfl ?_
        refine cg_X3_pump hX (by decide) rfl q_inX3 q_w3 dX3_exchange_45 ?_
        refine g_istore_n hX [(3, .int (I 15 2)), (0, .ref (ad 15)), (1, .int w), (2, .int n)] rfl dX3_exchange_48 rfl (by decide) ?_
        refine g_aload_n hX 1 rfl dX3_exchange_49 rfl ?_
        refine g_iload_n hX 3 rfl dX3_exchange_50 rfl ?_
        refine cp_X3_pump hX (by decide) rfl q_inX3 q_w3 dX3_exchange_51 ?_
        refine g_goto (tgt := 67) hX dX3_exchange_54 (by decide) ?_
        refine g_iload_n hX 0 rfl dX3_exchange_67 rfl ?_
        refine g_iret hX hE dX3_exchange_68 (by omega) (by omega) ?_
        exact ⟨_, rfl, by rw [exI, if_neg c_3, if_neg c_22, if_pos c_41], by rw [exR, if_neg c_3, if_neg c_22, if_pos c_41]⟩
    · refine g_aload_n hX 0 rfl dX3_exchange_25 rfl ?_
      refine cg_X3_least hX (by decide) rfl q_inX3 q_w2 dX3_exchange_26 ?_
      refine g_istore_n hX [(3, .int (I 15 1)), (0, .ref (ad 15)), (1, .int w), (2, .int n)] rfl dX3_exchange_29 rfl (by decide) ?_
      refine g_aload_n hX 1 rfl dX3_exchange_30 rfl ?_
      refine g_iload_n hX 3 rfl dX3_exchange_31 rfl ?_
      refine cp_X3_least hX (by decide) rfl q_inX3 q_w2 dX3_exchange_32 ?_
      refine g_goto (tgt := 67) hX dX3_exchange_35 (by decide) ?_
      refine g_iload_n hX 0 rfl dX3_exchange_67 rfl ?_
      refine g_iret hX hE dX3_exchange_68 (by omega) (by omega) ?_
      exact ⟨_, rfl, by rw [exI, if_neg c_3, if_pos c_22], by rw [exR, if_neg c_3, if_pos c_22]⟩
  · refine g_aload_n hX 0 rfl dX3_exchange_6 rfl ?_
    refine cg_X3_gap hX (by decide) rfl q_inX3 q_w1 dX3_exchange_7 ?_
    refine g_istore_n hX [(3, .int (I 15 0)), (0, .ref (ad 15)), (1, .int w), (2, .int n)] rfl dX3_exchange_10 rfl (by decide) ?_
    refine g_aload_n hX 1 rfl dX3_exchange_11 rfl ?_
    refine g_iload_n hX 3 rfl dX3_exchange_12 rfl ?_
    refine cp_X3_gap hX (by decide) rfl q_inX3 q_w1 dX3_exchange_13 ?_
    refine g_goto (tgt := 67) hX dX3_exchange_16 (by decide) ?_
    refine g_iload_n hX 0 rfl dX3_exchange_67 rfl ?_
    refine g_iret hX hE dX3_exchange_68 (by omega) (by omega) ?_
    exact ⟨_, rfl, by rw [exI, if_pos c_3], by rw [exR, if_pos c_3]⟩
abbrev rm_X5_reset : Room := { frames := 0, cells := 0, slots := 0, locals := 0 }
theorem hd_X5_reset : yX5_reset.cls = RX5 ∧ yX5_reset.cls ≠ "java/lang/invoke/MethodHandle" ∧ yX5_reset.cls ≠ "java/lang/invoke/VarHandle" ∧ (parseMethodDescriptor yX5_reset.desc).map (fun d => d.parameters.length) = some 0 := by decide +kernel
set_option maxRecDepth 100000 in
set_option maxHeartbeats 4000000 in
theorem k_X5_reset {D : va_G} {dT : Nat → ClassId} {ad : Nat → Nat} (I : Nat → Nat → Int32) (v : Nat) (hv : v < 12) : KV yX5_reset wsX5_reset rm_X5_reset D dT ad I [.ref (ad (24 + v))] (fun J => rsV I v = J) := by
  intro l9
  refine cv_of (own := RX5) (cc := cX5_reset) (maxL := 1) [(0, .ref (ad (24 + v)))] (by decide) rfl rfl rfl (Nat.le_of_ble_eq_true rfl) ?_
  intro X hX hE hN
  have q_w1 : Cond.fieldLink RX5 21 "Perforatum$Valve" "stands" "Z" ∈ wsX5_reset := List.mem_of_getElem? (i := 1) rfl
  have q_inX5 : ∀ w ∈ wsX50, w ∈ wsX5_reset := by decide +kernel
  have q_w2 : Cond.fieldLink RX5 25 "Perforatum$Valve" "opening" "I" ∈ wsX5_reset := List.mem_of_getElem? (i := 2) rfl
  have q_w3 : Cond.fieldLink RX5 28 "Perforatum$Valve" "rowsWithout" "I" ∈ wsX5_reset := List.mem_of_getElem? (i := 3) rfl
  have q_w4 : Cond.fieldLink RX5 31 "Perforatum$Valve" "closing" "I" ∈ wsX5_reset := List.mem_of_getElem? (i := 4) rfl
  have q_w5 : Cond.fieldLink RX5 34 "Perforatum$Valve" "speaks" "Z" ∈ wsX5_reset := List.mem_of_getElem? (i := 5) rfl
  have q_w6 : Cond.fieldLink RX5 37 "Perforatum$Valve" "rings" "Z" ∈ wsX5_reset := List.mem_of_getElem? (i := 6) rfl
  have q_w7 : Cond.fieldLink RX5 40 "Perforatum$Valve" "kept" "I" ∈ wsX5_reset := List.mem_of_getElem? (i := 7) rfl
  refine g_aload_n hX 0 rfl dX5_reset_0 rfl ?_
  refine g_iconst hX (0) dX5_reset_1 rfl ?_
  refine cp_X5_stands hX (by omega) (cK_v hv) q_inX5 q_w1 rfl rfl dX5_reset_2 ?_
  refine g_aload_n hX 0 rfl dX5_reset_5 rfl ?_
  refine g_iconst hX (0) dX5_reset_6 rfl ?_
  refine cp_X5_opening hX (by omega) (cK_v hv) q_inX5 q_w2 dX5_reset_7 ?_
  refine g_aload_n hX 0 rfl dX5_reset_10 rfl ?_
  refine g_iconst hX (0) dX5_reset_11 rfl ?_
  refine cp_X5_rowsWithout hX (by omega) (cK_v hv) q_inX5 q_w3 dX5_reset_12 ?_
  refine g_aload_n hX 0 rfl dX5_reset_15 rfl ?_
  refine g_sipush hX (-1000) dX5_reset_16 rfl ?_
  refine cp_X5_closing hX (by omega) (cK_v hv) q_inX5 q_w4 dX5_reset_19 ?_
  refine g_aload_n hX 0 rfl dX5_reset_22 rfl ?_
  refine g_iconst hX (0) dX5_reset_23 rfl ?_
  refine cp_X5_speaks hX (by omega) (cK_v hv) q_inX5 q_w5 rfl rfl dX5_reset_24 ?_
  refine g_aload_n hX 0 rfl dX5_reset_27 rfl ?_
  refine g_iconst hX (0) dX5_reset_28 rfl ?_
  refine cp_X5_rings hX (by omega) (cK_v hv) q_inX5 q_w6 rfl rfl dX5_reset_29 ?_
  refine g_aload_n hX 0 rfl dX5_reset_32 rfl ?_
  refine g_iconst hX (-1) dX5_reset_33 rfl ?_
  refine cp_X5_kept hX (by omega) (cK_v hv) q_inX5 q_w7 dX5_reset_34 ?_
  refine g_vret hX hE dX5_reset_37 (by omega) (by omega) ?_
  exact ⟨_, rfl, rfl⟩
abbrev rm_X5_isAudible : Room := { frames := 0, cells := 0, slots := 0, locals := 0 }
theorem hd_X5_isAudible : yX5_isAudible.cls = RX5 ∧ yX5_isAudible.cls ≠ "java/lang/invoke/MethodHandle" ∧ yX5_isAudible.cls ≠ "java/lang/invoke/VarHandle" ∧ (parseMethodDescriptor yX5_isAudible.desc).map (fun d => d.parameters.length) = some 0 := by decide +kernel
set_option maxRecDepth 100000 in
set_option maxHeartbeats 4000000 in
theorem k_X5_isAudible {D : va_G} {dT : Nat → ClassId} {ad : Nat → Nat} (I : Nat → Nat → Int32) (v : Nat) (hv : v < 12) : KI yX5_isAudible wsX5_isAudible rm_X5_isAudible D dT ad I [.ref (ad (24 + v))] (fun r J => I = J ∧ iau I v = r) := by
  intro l9
  refine ci_of (own := RX5) (cc := cX5_isAudible) (maxL := 1) (some .boolean) [(0, .ref (ad (24 + v)))] (by decide) rfl rfl rfl (Nat.le_of_ble_eq_true rfl) ?_
  intro X hX hE hN
  have q_w1 : Cond.fieldLink RX5 34 "Perforatum$Valve" "speaks" "Z" ∈ wsX5_isAudible := List.mem_of_getElem? (i := 1) rfl
  have q_inX5 : ∀ w ∈ wsX50, w ∈ wsX5_isAudible := by decide +kernel
  have q_w2 : Cond.fieldLink RX5 37 "Perforatum$Valve" "rings" "Z" ∈ wsX5_isAudible := List.mem_of_getElem? (i := 2) rfl
  refine g_aload_n hX 0 rfl dX5_isAudible_0 rfl ?_
  refine cg_X5_speaks hX (by omega) (cK_v hv) q_inX5 q_w1 dX5_isAudible_1 ?_
  refine g_if_ne (tgt := 14) hX dX5_isAudible_4 (by decide) (fun c_4 => ?_) (fun c_4 => ?_)
  · refine g_iconst hX (1) dX5_isAudible_14 rfl ?_
    refine g_goto (tgt := 19) hX dX5_isAudible_15 (by decide) ?_
    refine g_zret hX rfl hE dX5_isAudible_19 (by omega) (by omega) ?_
    exact ⟨_, rfl, rfl, by simp only [iau, c_4, if_true, if_false]⟩
  · refine g_aload_n hX 0 rfl dX5_isAudible_7 rfl ?_
    refine cg_X5_rings hX (by omega) (cK_v hv) q_inX5 q_w2 dX5_isAudible_8 ?_
    refine g_if_eq (tgt := 18) hX dX5_isAudible_11 (by decide) (fun c_11 => ?_) (fun c_11 => ?_)
    · refine g_iconst hX (0) dX5_isAudible_18 rfl ?_
      refine g_zret hX rfl hE dX5_isAudible_19 (by omega) (by omega) ?_
      exact ⟨_, rfl, rfl, by simp only [iau, c_11, c_4, if_true, if_false]⟩
    · refine g_iconst hX (1) dX5_isAudible_14 rfl ?_
      refine g_goto (tgt := 19) hX dX5_isAudible_15 (by decide) ?_
      refine g_zret hX rfl hE dX5_isAudible_19 (by omega) (by omega) ?_
      exact ⟨_, rfl, rfl, by simp only [iau, c_11, c_4, if_true, if_false]⟩
abbrev rm_X5_isReady : Room := { frames := 0, cells := 0, slots := 0, locals := 0 }
theorem hd_X5_isReady : yX5_isReady.cls = RX5 ∧ yX5_isReady.cls ≠ "java/lang/invoke/MethodHandle" ∧ yX5_isReady.cls ≠ "java/lang/invoke/VarHandle" ∧ (parseMethodDescriptor yX5_isReady.desc).map (fun d => d.parameters.length) = some 1 := by decide +kernel
set_option maxRecDepth 100000 in
set_option maxHeartbeats 4000000 in
theorem k_X5_isReady {D : va_G} {dT : Nat → ClassId} {ad : Nat → Nat} (I : Nat → Nat → Int32) (v : Nat) (hv : v < 12) (row : Int32) : KI yX5_isReady wsX5_isReady rm_X5_isReady D dT ad I [.ref (ad (24 + v)), .int row] (fun r J => I = J ∧ ird I v row = r) := by
  intro l9
  refine ci_of (own := RX5) (cc := cX5_isReady) (maxL := 2) (some .boolean) [(0, .ref (ad (24 + v))), (1, .int row)] (by decide) rfl rfl rfl (Nat.le_of_ble_eq_true rfl) ?_
  intro X hX hE hN
  have q_w1 : Cond.fieldLink RX5 21 "Perforatum$Valve" "stands" "Z" ∈ wsX5_isReady := List.mem_of_getElem? (i := 1) rfl
  have q_inX5 : ∀ w ∈ wsX50, w ∈ wsX5_isReady := by decide +kernel
  have q_w2 : Cond.fieldLink RX5 34 "Perforatum$Valve" "speaks" "Z" ∈ wsX5_isReady := List.mem_of_getElem? (i := 2) rfl
  have q_w3 : Cond.fieldLink RX5 25 "Perforatum$Valve" "opening" "I" ∈ wsX5_isReady := List.mem_of_getElem? (i := 3) rfl
  have q_w4 : Cond.fieldLink RX5 9 "Perforatum$Valve" "delay" "I" ∈ wsX5_isReady := List.mem_of_getElem? (i := 4) rfl
  have q_w5 : Cond.fieldLink RX5 31 "Perforatum$Valve" "closing" "I" ∈ wsX5_isReady := List.mem_of_getElem? (i := 5) rfl
  have q_w6 : Cond.fieldLink RX5 15 "Perforatum$Valve" "rest" "I" ∈ wsX5_isReady := List.mem_of_getElem? (i := 6) rfl
  refine g_aload_n hX 0 rfl dX5_isReady_0 rfl ?_
  refine cg_X5_stands hX (by omega) (cK_v hv) q_inX5 q_w1 dX5_isReady_1 ?_
  refine g_if_eq (tgt := 44) hX dX5_isReady_4 (by decide) (fun c_4 => ?_) (fun c_4 => ?_)
  · refine g_iconst hX (0) dX5_isReady_44 rfl ?_
    refine g_zret hX rfl hE dX5_isReady_45 (by omega) (by omega) ?_
    exact ⟨_, rfl, rfl, by simp only [ird, c_4, if_true, if_false]⟩
  · refine g_aload_n hX 0 rfl dX5_isReady_7 rfl ?_
    refine cg_X5_speaks hX (by omega) (cK_v hv) q_inX5 q_w2 dX5_isReady_8 ?_
    refine g_if_ne (tgt := 44) hX dX5_isReady_11 (by decide) (fun c_11 => ?_) (fun c_11 => ?_)
    · refine g_iconst hX (0) dX5_isReady_44 rfl ?_
      refine g_zret hX rfl hE dX5_isReady_45 (by omega) (by omega) ?_
      exact ⟨_, rfl, rfl, by simp only [ird, c_11, c_4, if_true, if_false]⟩
    · refine g_iload_n hX 1 rfl dX5_isReady_14 rfl ?_
      refine g_aload_n hX 0 rfl dX5_isReady_15 rfl ?_
      refine cg_X5_opening hX (by omega) (cK_v hv) q_inX5 q_w3 dX5_isReady_16 ?_
      refine g_aload_n hX 0 rfl dX5_isReady_19 rfl ?_
      refine cg_X5_delay hX (by omega) (cK_v hv) q_inX5 q_w4 dX5_isReady_20 ?_
      refine g_iadd hX dX5_isReady_23 ?_
      refine g_icmp_lt (tgt := 44) hX dX5_isReady_24 (by decide) (fun c_24 => ?_) (fun c_24 => ?_)
      · refine g_iconst hX (0) dX5_isReady_44 rfl ?_
        refine g_zret hX rfl hE dX5_isReady_45 (by omega) (by omega) ?_
        exact ⟨_, rfl, rfl, by simp only [ird, c_11, c_24, c_4, if_true, if_false]⟩
      · refine g_iload_n hX 1 rfl dX5_isReady_27 rfl ?_
        refine g_aload_n hX 0 rfl dX5_isReady_28 rfl ?_
        refine cg_X5_closing hX (by omega) (cK_v hv) q_inX5 q_w5 dX5_isReady_29 ?_
        refine g_aload_n hX 0 rfl dX5_isReady_32 rfl ?_
        refine cg_X5_rest hX (by omega) (cK_v hv) q_inX5 q_w6 dX5_isReady_33 ?_
        refine g_iadd hX dX5_isReady_36 ?_
        refine g_icmp_lt (tgt := 44) hX dX5_isReady_37 (by decide) (fun c_37 => ?_) (fun c_37 => ?_)
        · refine g_iconst hX (0) dX5_isReady_44 rfl ?_
          refine g_zret hX rfl hE dX5_isReady_45 (by omega) (by omega) ?_
          exact ⟨_, rfl, rfl, by simp only [ird, c_11, c_24, c_37, c_4, if_true, if_false]⟩
        · refine g_iconst hX (1) dX5_isReady_40 rfl ?_
          refine g_goto (tgt := 45) hX dX5_isReady_41 (by decide) ?_
          refine g_zret hX rfl hE dX5_isReady_45 (by omega) (by omega) ?_
          exact ⟨_, rfl, rfl, by simp only [ird, c_11, c_24, c_37, c_4, if_true, if_false]⟩
abbrev rm_X4_clear : Room := { frames := 0, cells := 0, slots := 0, locals := 0 }
theorem hd_X4_clear : yX4_clear.cls = RX4 ∧ yX4_clear.cls ≠ "java/lang/invoke/MethodHandle" ∧ yX4_clear.cls ≠ "java/lang/invoke/VarHandle" ∧ (parseMethodDescriptor yX4_clear.desc).map (fun d => d.parameters.length) = some 0 := by decide +kernel
set_option maxRecDepth 100000 in
set_option maxHeartbeats 4000000 in
theorem k_X4_clear {D : va_G} {dT : Nat → ClassId} {ad : Nat → Nat} (I : Nat → Nat → Int32) : KV yX4_clear wsX4_clear rm_X4_clear D dT ad I [.ref (ad 17)] (fun J => up2 I 17 6 0 = J) := by
  intro l9
  refine cv_of (own := RX4) (cc := cX4_clear) (maxL := 1) [(0, .ref (ad 17))] (by decide) rfl rfl rfl (Nat.le_of_ble_eq_true rfl) ?_
  intro X hX hE hN
  have q_w1 : Cond.fieldLink RX4 30 "Perforatum$SoundingLog" "count" "I" ∈ wsX4_clear := List.mem_of_getElem? (i := 1) rfl
  have q_inX4 : ∀ w ∈ wsX40, w ∈ wsX4_clear := by decide +kernel
  refine g_aload_n hX 0 rfl dX4_clear_0 rfl ?_
  refine g_iconst hX (0) dX4_clear_1 rfl ?_
  refine cp_X4_count hX (by decide) rfl q_inX4 q_w1 dX4_clear_2 ?_
  refine g_vret hX hE dX4_clear_5 (by omega) (by omega) ?_
  exact ⟨_, rfl, rfl⟩
abbrev rm_X4_has : Room := { frames := 0, cells := 0, slots := 0, locals := 0 }
theorem hd_X4_has : yX4_has.cls = RX4 ∧ yX4_has.cls ≠ "java/lang/invoke/MethodHandle" ∧ yX4_has.cls ≠ "java/lang/invoke/VarHandle" ∧ (parseMethodDescriptor yX4_has.desc).map (fun d => d.parameters.length) = some 1 := by decide +kernel
set_option maxRecDepth 100000 in
set_option maxHeartbeats 4000000 in
theorem k_X4_has {D : va_G} {dT : Nat → ClassId} {ad : Nat → Nat} (I : Nat → Nat → Int32) (ix : Int32) : KI yX4_has wsX4_has rm_X4_has D dT ad I [.ref (ad 17), .int ix] (fun r J => I = J ∧ lhas I ix = r) := by
  intro l9
  refine ci_of (own := RX4) (cc := cX4_has) (maxL := 2) (some .boolean) [(0, .ref (ad 17)), (1, .int ix)] (by decide) rfl rfl rfl (Nat.le_of_ble_eq_true rfl) ?_
  intro X hX hE hN
  have q_w1 : Cond.fieldLink RX4 30 "Perforatum$SoundingLog" "count" "I" ∈ wsX4_has := List.mem_of_getElem? (i := 1) rfl
  have q_inX4 : ∀ w ∈ wsX40, w ∈ wsX4_has := by decide +kernel
  refine g_iload_n hX 1 rfl dX4_has_0 rfl ?_
  refine g_if_lt (tgt := 23) hX dX4_has_1 (by decide) (fun c_1 => ?_) (fun c_1 => ?_)
  · refine g_iconst hX (0) dX4_has_23 rfl ?_
    refine g_zret hX rfl hE dX4_has_24 (by omega) (by omega) ?_
    exact ⟨_, rfl, rfl, by simp only [lhas, c_1, if_true, if_false]⟩
  · refine g_iload_n hX 1 rfl dX4_has_4 rfl ?_
    refine g_aload_n hX 0 rfl dX4_has_5 rfl ?_
    refine cg_X4_count hX (by decide) rfl q_inX4 q_w1 dX4_has_6 ?_
    refine g_icmp_ge (tgt := 23) hX dX4_has_9 (by decide) (fun c_9 => ?_) (fun c_9 => ?_)
    · refine g_iconst hX (0) dX4_has_23 rfl ?_
      refine g_zret hX rfl hE dX4_has_24 (by omega) (by omega) ?_
      exact ⟨_, rfl, rfl, by simp only [lhas, c_1, c_9, if_true, if_false]⟩
    · refine g_iload_n hX 1 rfl dX4_has_12 rfl ?_
      refine g_sipush hX (300) dX4_has_13 rfl ?_
      refine g_icmp_ge (tgt := 23) hX dX4_has_16 (by decide) (fun c_16 => ?_) (fun c_16 => ?_)
      · refine g_iconst hX (0) dX4_has_23 rfl ?_
        refine g_zret hX rfl hE dX4_has_24 (by omega) (by omega) ?_
        exact ⟨_, rfl, rfl, by simp only [lhas, c_1, c_16, c_9, if_true, if_false]⟩
      · refine g_iconst hX (1) dX4_has_19 rfl ?_
        refine g_goto (tgt := 24) hX dX4_has_20 (by decide) ?_
        refine g_zret hX rfl hE dX4_has_24 (by omega) (by omega) ?_
        exact ⟨_, rfl, rfl, by simp only [lhas, c_1, c_16, c_9, if_true, if_false]⟩
abbrev rm_X4_keep : Room := { frames := 0, cells := 0, slots := 0, locals := 0 }
theorem hd_X4_keep : yX4_keep.cls = RX4 ∧ yX4_keep.cls ≠ "java/lang/invoke/MethodHandle" ∧ yX4_keep.cls ≠ "java/lang/invoke/VarHandle" ∧ (parseMethodDescriptor yX4_keep.desc).map (fun d => d.parameters.length) = some 4 := by decide +kernel
set_option maxRecDepth 100000 in
set_option maxHeartbeats 4000000 in
theorem k_X4_keep {D : va_G} {dT : Nat → ClassId} {ad : Nat → Nat} (I : Nat → Nat → Int32) (c : Nat) (hc : I 17 6 = nI c) (h300 : c ≤ 300) (n o f l : Int32) : KI yX4_keep wsX4_keep rm_X4_keep D dT ad I [.ref (ad 17), .int n, .int o, .int f, .int l] (fun r J => kpI I c n o f l = J ∧ kpR c = r) := by
  intro l9
  refine ci_of (own := RX4) (cc := cX4_keep) (maxL := 5) (some .int) [(0, .ref (ad 17)), (1, .int n), (2, .int o), (3, .int f), (4, .int l)] (by decide) rfl rfl rfl (Nat.le_of_ble_eq_true rfl) ?_
  intro X hX hE hN
  have q_w1 : Cond.fieldLink RX4 30 "Perforatum$SoundingLog" "count" "I" ∈ wsX4_keep := List.mem_of_getElem? (i := 1) rfl
  have q_inX4 : ∀ w ∈ wsX40, w ∈ wsX4_keep := by decide +kernel
  have q_w2 : Cond.fieldLink RX4 9 "Perforatum$SoundingLog" "notes" "[I" ∈ wsX4_keep := List.mem_of_getElem? (i := 2) rfl
  have q_w3 : Cond.fieldLink RX4 15 "Perforatum$SoundingLog" "openings" "[I" ∈ wsX4_keep := List.mem_of_getElem? (i := 3) rfl
  have q_w4 : Cond.fieldLink RX4 18 "Perforatum$SoundingLog" "firsts" "[I" ∈ wsX4_keep := List.mem_of_getElem? (i := 4) rfl
  have q_w5 : Cond.fieldLink RX4 21 "Perforatum$SoundingLog" "lasts" "[I" ∈ wsX4_keep := List.mem_of_getElem? (i := 5) rfl
  have q_w6 : Cond.fieldLink RX4 24 "Perforatum$SoundingLog" "louds" "[I" ∈ wsX4_keep := List.mem_of_getElem? (i := 6) rfl
  refine g_aload_n hX 0 rfl dX4_keep_0 rfl ?_
  refine cg_X4_count hX (by decide) rfl q_inX4 q_w1 dX4_keep_1 ?_
  refine g_eqi (y := (nI c)) hc ?_
  refine g_sipush hX (300) dX4_keep_4 rfl ?_
  refine g_icmp_lt (tgt := 12) hX dX4_keep_7 (by decide) (fun c_7 => ?_) (fun c_7 => ?_)
  · have c_7 : c < 300 := (nI_ltI (a := c) (b := 300) (by omega) (by omega)).mp c_7
    refine g_aload_n hX 0 rfl dX4_keep_12 rfl ?_
    refine cg_X4_notes hX (by decide) rfl q_inX4 q_w2 rfl dX4_keep_13 ?_
    refine g_aload_n hX 0 rfl dX4_keep_16 rfl ?_
    refine cg_X4_count hX (by decide) rfl q_inX4 q_w1 dX4_keep_17 ?_
    refine g_eqi (y := (nI c)) hc ?_
    refine g_iload_n hX 1 rfl dX4_keep_20 rfl ?_
    refine c_iastk hX c (by decide) rfl (by show _ < (300 : Nat); omega) (by omega) dX4_keep_21 ?_
    refine g_aload_n hX 0 rfl dX4_keep_22 rfl ?_
    refine cg_X4_openings hX (by decide) rfl q_inX4 q_w3 rfl dX4_keep_23 ?_
    refine g_aload_n hX 0 rfl dX4_keep_26 rfl ?_
    refine cg_X4_count hX (by decide) rfl q_inX4 q_w1 dX4_keep_27 ?_
    refine g_eqi (y := I 17 6) ((up2_n (Or.inl (by omega)))) ?_
    refine g_eqi (y := (nI c)) hc ?_
    refine g_iload_n hX 2 rfl dX4_keep_30 rfl ?_
    refine c_iastk hX c (by decide) rfl (by show _ < (300 : Nat); omega) (by omega) dX4_keep_31 ?_
    refine g_aload_n hX 0 rfl dX4_keep_32 rfl ?_
    refine cg_X4_firsts hX (by decide) rfl q_inX4 q_w4 rfl dX4_keep_33 ?_
    refine g_aload_n hX 0 rfl dX4_keep_36 rfl ?_
    refine cg_X4_count hX (by decide) rfl q_inX4 q_w1 dX4_keep_37 ?_
    refine g_eqi (y := I 17 6) (((up2_n (Or.inl (by omega)))).trans ((up2_n (Or.inl (by omega))))) ?_
    refine g_eqi (y := (nI c)) hc ?_
    refine g_iload_n hX 3 rfl dX4_keep_40 rfl ?_
    refine c_iastk hX c (by decide) rfl (by show _ < (300 : Nat); omega) (by omega) dX4_keep_41 ?_
    refine g_aload_n hX 0 rfl dX4_keep_42 rfl ?_
    refine cg_X4_lasts hX (by decide) rfl q_inX4 q_w5 rfl dX4_keep_43 ?_
    refine g_aload_n hX 0 rfl dX4_keep_46 rfl ?_
    refine cg_X4_count hX (by decide) rfl q_inX4 q_w1 dX4_keep_47 ?_
    refine g_eqi (y := I 17 6) (((up2_n (Or.inl (by omega)))).trans (((up2_n (Or.inl (by omega)))).trans ((up2_n (Or.inl (by omega)))))) ?_
    refine g_eqi (y := (nI c)) hc ?_
    refine g_iconst hX (-1) dX4_keep_50 rfl ?_
    refine c_iastk hX c (by decide) rfl (by show _ < (300 : Nat); omega) (by omega) dX4_keep_51 ?_
    refine g_aload_n hX 0 rfl dX4_keep_52 rfl ?_
    refine cg_X4_louds hX (by decide) rfl q_inX4 q_w6 rfl dX4_keep_53 ?_
    refine g_aload_n hX 0 rfl dX4_keep_56 rfl ?_
    refine cg_X4_count hX (by decide) rfl q_inX4 q_w1 dX4_keep_57 ?_
    refine g_eqi (y := I 17 6) (((up2_n (Or.inl (by omega)))).trans (((up2_n (Or.inl (by omega)))).trans (((up2_n (Or.inl (by omega)))).trans ((up2_n (Or.inl (by omega))))))) ?_
    refine g_eqi (y := (nI c)) hc ?_
    refine g_iload hX 4 rfl dX4_keep_60 ?_
    refine c_iastk hX c (by decide) rfl (by show _ < (300 : Nat); omega) (by omega) dX4_keep_62 ?_
    refine g_aload_n hX 0 rfl dX4_keep_63 rfl ?_
    refine g_dup hX dX4_keep_64 rfl ?_
    refine cg_X4_count hX (by decide) rfl q_inX4 q_w1 dX4_keep_65 ?_
    refine g_eqi (y := I 17 6) (((up2_n (Or.inl (by omega)))).trans (((up2_n (Or.inl (by omega)))).trans (((up2_n (Or.inl (by omega)))).trans (((up2_n (Or.inl (by omega)))).trans ((up2_n (Or.inl (by omega)))))))) ?_
    refine g_eqi (y := (nI c)) hc ?_
    refine g_iconst hX (1) dX4_keep_68 rfl ?_
    refine g_iadd hX dX4_keep_69 ?_
    refine cp_X4_count hX (by decide) rfl q_inX4 q_w1 dX4_keep_70 ?_
    refine g_aload_n hX 0 rfl dX4_keep_73 rfl ?_
    refine cg_X4_count hX (by decide) rfl q_inX4 q_w1 dX4_keep_74 ?_
    refine g_eqi (y := (nI c) + 1) (up2_s) ?_
    refine g_iconst hX (1) dX4_keep_77 rfl ?_
    refine g_isub hX dX4_keep_78 ?_
    refine g_iret hX hE dX4_keep_79 (by omega) (by omega) ?_
    exact ⟨_, rfl, by rw [kpI, if_neg (show ¬ 300 ≤ c by omega)], by rw [kpR, if_neg (show ¬ 300 ≤ c by omega)]⟩
  · have c_7 : ¬ c < 300 := fun h9 => c_7 ((nI_ltI (a := c) (b := 300) (by omega) (by omega)).mpr h9)
    refine g_iconst hX (-1) dX4_keep_10 rfl ?_
    refine g_iret hX hE dX4_keep_11 (by omega) (by omega) ?_
    exact ⟨_, rfl, by rw [kpI, if_pos (show 300 ≤ c by omega)], by rw [kpR, if_pos (show 300 ≤ c by omega)]⟩
abbrev rm_X4_finish : Room := { frames := 1, cells := 0, slots := 0, locals := 21 }
theorem hd_X4_finish : yX4_finish.cls = RX4 ∧ yX4_finish.cls ≠ "java/lang/invoke/MethodHandle" ∧ yX4_finish.cls ≠ "java/lang/invoke/VarHandle" ∧ (parseMethodDescriptor yX4_finish.desc).map (fun d => d.parameters.length) = some 2 := by decide +kernel
set_option maxRecDepth 100000 in
set_option maxHeartbeats 4000000 in
theorem k_X4_finish {D : va_G} {dT : Nat → ClassId} {ad : Nat → Nat} (I : Nat → Nat → Int32) (ix x : Int32) : KV yX4_finish wsX4_finish rm_X4_finish D dT ad I [.ref (ad 17), .int ix, .int x] (fun J => fin I ix x = J) := by
  intro l9
  refine cv_of (own := RX4) (cc := cX4_finish) (maxL := 3) [(0, .ref (ad 17)), (1, .int ix), (2, .int x)] (by decide) rfl rfl rfl (Nat.le_of_ble_eq_true rfl) ?_
  intro X hX hE hN
  have q_w1 : Cond.fieldLink RX4 21 "Perforatum$SoundingLog" "lasts" "[I" ∈ wsX4_finish := List.mem_of_getElem? (i := 1) rfl
  have q_inX4 : ∀ w ∈ wsX40, w ∈ wsX4_finish := by decide +kernel
  refine g_aload_n hX 0 rfl dX4_finish_0 rfl ?_
  refine g_iload_n hX 1 rfl dX4_finish_1 rfl ?_
  refine c_callI_V hX [.int ix] 8 (by decide) rfl (by decide) rfl (k_X4_has I ix) gX4_finish_X4_has rfl rfl rfl hd_X4_has ⟨Nat.le_of_ble_eq_true rfl, Nat.le_of_ble_eq_true rfl⟩ ⟨Nat.zero_le _, Nat.zero_le _⟩ rfl (Nat.le_of_ble_eq_true rfl) dX4_finish_2 (fun r_2 J_2 h_2 => ?_)
  obtain ⟨rfl, rfl⟩ := h_2
  refine g_if_eq (tgt := 15) hX dX4_finish_5 (by decide) (fun c_5 => ?_) (fun c_5 => ?_)
  · refine g_vret hX hE dX4_finish_15 (by omega) (by omega) ?_
    exact ⟨_, rfl, by simp only [fin, c_5, if_true, if_false]⟩
  · refine g_aload_n hX 0 rfl dX4_finish_8 rfl ?_
    refine cg_X4_lasts hX (by decide) rfl q_inX4 q_w1 rfl dX4_finish_9 ?_
    refine g_iload_n hX 1 rfl dX4_finish_12 rfl ?_
    refine g_iload_n hX 2 rfl dX4_finish_13 rfl ?_
    refine c_iastx hX (by decide) rfl (vin300 c_5) dX4_finish_14 ?_
    refine g_vret hX hE dX4_finish_15 (by omega) (by omega) ?_
    exact ⟨_, rfl, by simp only [fin, c_5, if_true, if_false]⟩
abbrev rm_X4_tell : Room := { frames := 1, cells := 0, slots := 0, locals := 21 }
theorem hd_X4_tell : yX4_tell.cls = RX4 ∧ yX4_tell.cls ≠ "java/lang/invoke/MethodHandle" ∧ yX4_tell.cls ≠ "java/lang/invoke/VarHandle" ∧ (parseMethodDescriptor yX4_tell.desc).map (fun d => d.parameters.length) = some 2 := by decide +kernel
set_option maxRecDepth 100000 in
set_option maxHeartbeats 4000000 in
theorem k_X4_tell {D : va_G} {dT : Nat → ClassId} {ad : Nat → Nat} (I : Nat → Nat → Int32) (ix w : Int32) : KI yX4_tell wsX4_tell rm_X4_tell D dT ad I [.ref (ad 17), .int ix, .int w] (fun r J => I = J ∧ ltell I ix w = r) := by
  intro l9
  refine ci_of (own := RX4) (cc := cX4_tell) (maxL := 3) (some .int) [(0, .ref (ad 17)), (1, .int ix), (2, .int w)] (by decide) rfl rfl rfl (Nat.le_of_ble_eq_true rfl) ?_
  intro X hX hE hN
  have q_w5 : Cond.fieldLink RX4 24 "Perforatum$SoundingLog" "louds" "[I" ∈ wsX4_tell := List.mem_of_getElem? (i := 5) rfl
  have q_inX4 : ∀ w ∈ wsX40, w ∈ wsX4_tell := by decide +kernel
  have q_w4 : Cond.fieldLink RX4 21 "Perforatum$SoundingLog" "lasts" "[I" ∈ wsX4_tell := List.mem_of_getElem? (i := 4) rfl
  have q_w3 : Cond.fieldLink RX4 18 "Perforatum$SoundingLog" "firsts" "[I" ∈ wsX4_tell := List.mem_of_getElem? (i := 3) rfl
  have q_w2 : Cond.fieldLink RX4 15 "Perforatum$SoundingLog" "openings" "[I" ∈ wsX4_tell := List.mem_of_getElem? (i := 2) rfl
  have q_w1 : Cond.fieldLink RX4 9 "Perforatum$SoundingLog" "notes" "[I" ∈ wsX4_tell := List.mem_of_getElem? (i := 1) rfl
  refine g_aload_n hX 0 rfl dX4_tell_0 rfl ?_
  refine g_iload_n hX 1 rfl dX4_tell_1 rfl ?_
  refine c_callI_V hX [.int ix] 8 (by decide) rfl (by decide) rfl (k_X4_has I ix) gX4_tell_X4_has rfl rfl rfl hd_X4_has ⟨Nat.le_of_ble_eq_true rfl, Nat.le_of_ble_eq_true rfl⟩ ⟨Nat.zero_le _, Nat.zero_le _⟩ rfl (Nat.le_of_ble_eq_true rfl) dX4_tell_2 (fun r_2 J_2 h_2 => ?_)
  obtain ⟨rfl, rfl⟩ := h_2
  refine g_if_ne (tgt := 10) hX dX4_tell_5 (by decide) (fun c_5 => ?_) (fun c_5 => ?_)
  · refine g_iload_n hX 2 rfl dX4_tell_10 rfl ?_
    refine g_bipush hX (110) dX4_tell_11 rfl ?_
    refine g_icmp_ne (tgt := 23) hX dX4_tell_13 (by decide) (fun c_13 => ?_) (fun c_13 => ?_)
    · refine g_iload_n hX 2 rfl dX4_tell_23 rfl ?_
      refine g_bipush hX (111) dX4_tell_24 rfl ?_
      refine g_icmp_ne (tgt := 36) hX dX4_tell_26 (by decide) (fun c_26 => ?_) (fun c_26 => ?_)
      · refine g_iload_n hX 2 rfl dX4_tell_36 rfl ?_
        refine g_bipush hX (102) dX4_tell_37 rfl ?_
        refine g_icmp_ne (tgt := 49) hX dX4_tell_39 (by decide) (fun c_39 => ?_) (fun c_39 => ?_)
        · refine g_iload_n hX 2 rfl dX4_tell_49 rfl ?_
          refine g_bipush hX (108) dX4_tell_50 rfl ?_
          refine g_icmp_ne (tgt := 64) hX dX4_tell_52 (by decide) (fun c_52 => ?_) (fun c_52 => ?_)
          · refine g_aload_n hX 0 rfl dX4_tell_64 rfl ?_
            refine cg_X4_louds hX (by decide) rfl q_inX4 q_w5 rfl dX4_tell_65 ?_
            refine g_iload_n hX 1 rfl dX4_tell_68 rfl ?_
            refine c_iald hX (by decide) rfl (vin300 c_5) dX4_tell_69 ?_
            refine g_iret hX hE dX4_tell_70 (by omega) (by omega) ?_
            exact ⟨_, rfl, rfl, by rw [ltell, if_neg c_5, if_neg c_13, if_neg c_26, if_neg c_39, if_neg c_52]⟩
          · refine g_aload_n hX 0 rfl dX4_tell_55 rfl ?_
            refine cg_X4_lasts hX (by decide) rfl q_inX4 q_w4 rfl dX4_tell_56 ?_
            refine g_iload_n hX 1 rfl dX4_tell_59 rfl ?_
            refine c_iald hX (by decide) rfl (vin300 c_5) dX4_tell_60 ?_
            refine g_goto (tgt := 70) hX dX4_tell_61 (by decide) ?_
            refine g_iret hX hE dX4_tell_70 (by omega) (by omega) ?_
            exact ⟨_, rfl, rfl, by rw [ltell, if_neg c_5, if_neg c_13, if_neg c_26, if_neg c_39, if_pos c_52]⟩
        · refine g_aload_n hX 0 rfl dX4_tell_42 rfl ?_
          refine cg_X4_firsts hX (by decide) rfl q_inX4 q_w3 rfl dX4_tell_43 ?_
          refine g_iload_n hX 1 rfl dX4_tell_46 rfl ?_
          refine c_iald hX (by decide) rfl (vin300 c_5) dX4_tell_47 ?_
          refine g_iret hX hE dX4_tell_48 (by omega) (by omega) ?_
          exact ⟨_, rfl, rfl, by rw [ltell, if_neg c_5, if_neg c_13, if_neg c_26, if_pos c_39]⟩
      · refine g_aload_n hX 0 rfl dX4_tell_29 rfl ?_
        refine cg_X4_openings hX (by decide) rfl q_inX4 q_w2 rfl dX4_tell_30 ?_
        refine g_iload_n hX 1 rfl dX4_tell_33 rfl ?_
        refine c_iald hX (by decide) rfl (vin300 c_5) dX4_tell_34 ?_
        refine g_iret hX hE dX4_tell_35 (by omega) (by omega) ?_
        exact ⟨_, rfl, rfl, by rw [ltell, if_neg c_5, if_neg c_13, if_pos c_26]⟩
    · refine g_aload_n hX 0 rfl dX4_tell_16 rfl ?_
      refine cg_X4_notes hX (by decide) rfl q_inX4 q_w1 rfl dX4_tell_17 ?_
      refine g_iload_n hX 1 rfl dX4_tell_20 rfl ?_
      refine c_iald hX (by decide) rfl (vin300 c_5) dX4_tell_21 ?_
      refine g_iret hX hE dX4_tell_22 (by omega) (by omega) ?_
      exact ⟨_, rfl, rfl, by rw [ltell, if_neg c_5, if_pos c_13]⟩
  · refine g_iconst hX (0) dX4_tell_8 rfl ?_
    refine g_iret hX hE dX4_tell_9 (by omega) (by omega) ?_
    exact ⟨_, rfl, rfl, by rw [ltell, if_pos c_5]⟩
abbrev rm_X4_findLoudest : Room := { frames := 0, cells := 0, slots := 0, locals := 0 }
theorem hd_X4_findLoudest : yX4_findLoudest.cls = RX4 ∧ yX4_findLoudest.cls ≠ "java/lang/invoke/MethodHandle" ∧ yX4_findLoudest.cls ≠ "java/lang/invoke/VarHandle" ∧ (parseMethodDescriptor yX4_findLoudest.desc).map (fun d => d.parameters.length) = some 0 := by decide +kernel
set_option maxRecDepth 100000 in
set_option maxHeartbeats 4000000 in
theorem k_X4_findLoudest {D : va_G} {dT : Nat → ClassId} {ad : Nat → Nat} (I : Nat → Nat → Int32) (c : Nat) (hc : I 17 6 = nI c) (h300 : c ≤ 300) : KI yX4_findLoudest wsX4_findLoudest rm_X4_findLoudest D dT ad I [.ref (ad 17)] (fun r J => I = J ∧ nI (lfl I (c - 1) 1 0) = r) := by
  intro l9
  refine ci_of (own := RX4) (cc := cX4_findLoudest) (maxL := 3) (some .int) [(0, .ref (ad 17))] (by decide) rfl rfl rfl (Nat.le_of_ble_eq_true rfl) ?_
  intro X hX hE hN
  have q_w1 : Cond.fieldLink RX4 30 "Perforatum$SoundingLog" "count" "I" ∈ wsX4_findLoudest := List.mem_of_getElem? (i := 1) rfl
  have q_inX4 : ∀ w ∈ wsX40, w ∈ wsX4_findLoudest := by decide +kernel
  have q_w2 : Cond.fieldLink RX4 24 "Perforatum$SoundingLog" "louds" "[I" ∈ wsX4_findLoudest := List.mem_of_getElem? (i := 2) rfl
  refine g_iconst hX (0) dX4_findLoudest_0 rfl ?_
  refine g_istore_n hX [(1, .int 0), (0, .ref (ad 17))] rfl dX4_findLoudest_1 rfl (by decide) ?_
  refine g_iconst hX (1) dX4_findLoudest_2 rfl ?_
  refine g_istore_n hX [(2, .int 1), (1, .int 0), (0, .ref (ad 17))] rfl dX4_findLoudest_3 rfl (by decide) ?_
  have lp_4 : ∀ (n9 : Nat) (k : Nat) (q : Nat), 301 - k < n9 → k ≤ 301 → q < 300 → lfl I (c - 1) 1 0 = lfl I (c - k) k q → CG X D dT ad I [(2, .int (nI k)), (1, .int (nI q)), (0, .ref (ad 17))] 0 0 4 [] := by
    intro n9
    induction n9 with
    | zero => intro k q h9; exact absurd h9 (Nat.not_lt_zero _)
    | succ n9 ih9 =>
      intro k q h9 hk hq hs
      have ih_4 := ih9
      refine g_iload_n hX 0 rfl dX4_findLoudest_4 rfl ?_
      refine g_aload_n hX 2 rfl dX4_findLoudest_5 rfl ?_
      refine cg_X4_count hX (by decide) rfl q_inX4 q_w1 dX4_findLoudest_6 ?_
      refine g_eqi (y := (nI c)) hc ?_
      refine g_icmp_ge (tgt := 35) hX dX4_findLoudest_9 (by decide) (fun c_9 => ?_) (fun c_9 => ?_)
      · have c_9 : c ≤ k := (nI_leI (a := c) (b := k) (by omega) (by omega)).mp c_9
        refine g_iload_n hX 1 rfl dX4_findLoudest_35 rfl ?_
        refine g_iret hX hE dX4_findLoudest_36 (by omega) (by omega) ?_
        exact ⟨_, rfl, rfl, by rw [hs, show c - k = 0 by omega]; rfl⟩
      · have c_9 : ¬ c ≤ k := fun h9 => c_9 ((nI_leI (a := c) (b := k) (by omega) (by omega)).mpr h9)
        refine g_aload_n hX 2 rfl dX4_findLoudest_12 rfl ?_
        refine cg_X4_louds hX (by decide) rfl q_inX4 q_w2 rfl dX4_findLoudest_13 ?_
        refine g_iload_n hX 0 rfl dX4_findLoudest_16 rfl ?_
        refine c_ialdk hX k (by decide) rfl (by show _ < (300 : Nat); omega) (by omega) dX4_findLoudest_17 ?_
        refine g_aload_n hX 2 rfl dX4_findLoudest_18 rfl ?_
        refine cg_X4_louds hX (by decide) rfl q_inX4 q_w2 rfl dX4_findLoudest_19 ?_
        refine g_iload_n hX 1 rfl dX4_findLoudest_22 rfl ?_
        refine c_ialdk hX q (by decide) rfl (by show _ < (300 : Nat); omega) (by omega) dX4_findLoudest_23 ?_
        refine g_icmp_le (tgt := 29) hX dX4_findLoudest_24 (by decide) (fun c_24 => ?_) (fun c_24 => ?_)
        · refine g_iinc hX (nI (k + 1)) [(2, .int (nI (k + 1))), (1, .int (nI q)), (0, .ref (ad 17))] (k := 0) rfl (g_inc k) rfl dX4_findLoudest_29 (by decide) ?_
          refine g_goto (tgt := 4) hX dX4_findLoudest_32 (by decide) ?_
          refine g_lv [0, 1, 2] rfl ?_
          exact ih_4 (k + 1) q (by omega) (by omega) (by omega) (hs.trans (by rw [show c - k = (c - (k + 1)) + 1 by omega, lfl]; simp only [c_24, if_true, if_false]))
        · refine g_iload_n hX 0 rfl dX4_findLoudest_27 rfl ?_
          refine g_istore_n hX [(1, .int (nI k)), (2, .int (nI k)), (0, .ref (ad 17))] rfl dX4_findLoudest_28 rfl (by decide) ?_
          refine g_iinc hX (nI (k + 1)) [(2, .int (nI (k + 1))), (1, .int (nI k)), (0, .ref (ad 17))] (k := 1) rfl (g_inc k) rfl dX4_findLoudest_29 (by decide) ?_
          refine g_goto (tgt := 4) hX dX4_findLoudest_32 (by decide) ?_
          refine g_lv [0, 1, 2] rfl ?_
          exact ih_4 (k + 1) k (by omega) (by omega) (by omega) (hs.trans (by rw [show c - k = (c - (k + 1)) + 1 by omega, lfl]; simp only [c_24, if_true, if_false]))
  refine g_lv [0, 1, 2] rfl ?_
  exact lp_4 _ 1 0 (Nat.lt_succ_self _) (by omega) (by omega) rfl
abbrev rm_X4_addLoudness : Room := { frames := 0, cells := 0, slots := 0, locals := 0 }
theorem hd_X4_addLoudness : yX4_addLoudness.cls = RX4 ∧ yX4_addLoudness.cls ≠ "java/lang/invoke/MethodHandle" ∧ yX4_addLoudness.cls ≠ "java/lang/invoke/VarHandle" ∧ (parseMethodDescriptor yX4_addLoudness.desc).map (fun d => d.parameters.length) = some 0 := by decide +kernel
set_option maxRecDepth 100000 in
set_option maxHeartbeats 4000000 in
theorem k_X4_addLoudness {D : va_G} {dT : Nat → ClassId} {ad : Nat → Nat} (I : Nat → Nat → Int32) (c : Nat) (hc : I 17 6 = nI c) (h300 : c ≤ 300) : KI yX4_addLoudness wsX4_addLoudness rm_X4_addLoudness D dT ad I [.ref (ad 17)] (fun r J => I = J ∧ sumB (I 22) c = r) := by
  intro l9
  refine ci_of (own := RX4) (cc := cX4_addLoudness) (maxL := 3) (some .int) [(0, .ref (ad 17))] (by decide) rfl rfl rfl (Nat.le_of_ble_eq_true rfl) ?_
  intro X hX hE hN
  have q_w1 : Cond.fieldLink RX4 30 "Perforatum$SoundingLog" "count" "I" ∈ wsX4_addLoudness := List.mem_of_getElem? (i := 1) rfl
  have q_inX4 : ∀ w ∈ wsX40, w ∈ wsX4_addLoudness := by decide +kernel
  have q_w2 : Cond.fieldLink RX4 24 "Perforatum$SoundingLog" "louds" "[I" ∈ wsX4_addLoudness := List.mem_of_getElem? (i := 2) rfl
  refine g_iconst hX (0) dX4_addLoudness_0 rfl ?_
  refine g_istore_n hX [(1, .int 0), (0, .ref (ad 17))] rfl dX4_addLoudness_1 rfl (by decide) ?_
  refine g_iconst hX (0) dX4_addLoudness_2 rfl ?_
  refine g_istore_n hX [(2, .int 0), (1, .int 0), (0, .ref (ad 17))] rfl dX4_addLoudness_3 rfl (by decide) ?_
  have lp_4 : ∀ (n9 : Nat) (k : Nat) (q : Int32), c - k < n9 → k ≤ c → q = sumB (I 22) k → CG X D dT ad I [(2, .int (nI k)), (1, .int q), (0, .ref (ad 17))] 0 0 4 [] := by
    intro n9
    induction n9 with
    | zero => intro k q h9; exact absurd h9 (Nat.not_lt_zero _)
    | succ n9 ih9 =>
      intro k q h9 hk hq
      have ih_4 := ih9
      refine g_iload_n hX 0 rfl dX4_addLoudness_4 rfl ?_
      refine g_aload_n hX 2 rfl dX4_addLoudness_5 rfl ?_
      refine cg_X4_count hX (by decide) rfl q_inX4 q_w1 dX4_addLoudness_6 ?_
      refine g_eqi (y := (nI c)) hc ?_
      refine g_icmp_ge (tgt := 27) hX dX4_addLoudness_9 (by decide) (fun c_9 => ?_) (fun c_9 => ?_)
      · have c_9 : c ≤ k := (nI_leI (a := c) (b := k) (by omega) (by omega)).mp c_9
        refine g_iload_n hX 1 rfl dX4_addLoudness_27 rfl ?_
        refine g_iret hX hE dX4_addLoudness_28 (by omega) (by omega) ?_
        exact ⟨_, rfl, rfl, by rw [hq, show k = c by omega]⟩
      · have c_9 : ¬ c ≤ k := fun h9 => c_9 ((nI_leI (a := c) (b := k) (by omega) (by omega)).mpr h9)
        refine g_iload_n hX 1 rfl dX4_addLoudness_12 rfl ?_
        refine g_aload_n hX 2 rfl dX4_addLoudness_13 rfl ?_
        refine cg_X4_louds hX (by decide) rfl q_inX4 q_w2 rfl dX4_addLoudness_14 ?_
        refine g_iload_n hX 0 rfl dX4_addLoudness_17 rfl ?_
        refine c_ialdk hX k (by decide) rfl (by show _ < (300 : Nat); omega) (by omega) dX4_addLoudness_18 ?_
        refine g_iadd hX dX4_addLoudness_19 ?_
        refine g_istore_n hX [(1, .int (q + (I 22 k))), (2, .int (nI k)), (0, .ref (ad 17))] rfl dX4_addLoudness_20 rfl (by decide) ?_
        refine g_iinc hX (nI (k + 1)) [(2, .int (nI (k + 1))), (1, .int (q + (I 22 k))), (0, .ref (ad 17))] (k := 1) rfl (g_inc k) rfl dX4_addLoudness_21 (by decide) ?_
        refine g_goto (tgt := 4) hX dX4_addLoudness_24 (by decide) ?_
        refine g_lv [0, 1, 2] rfl ?_
        exact ih_4 (k + 1) (q + (I 22 k)) (by omega) (by omega) (by rw [hq]; rfl)
  refine g_lv [0, 1, 2] rfl ?_
  exact lp_4 _ 0 0 (Nat.lt_succ_self _) (Nat.zero_le _) rfl
abbrev rm_X4_addToSum : Room := { frames := 0, cells := 0, slots := 0, locals := 0 }
theorem hd_X4_addToSum : yX4_addToSum.cls = RX4 ∧ yX4_addToSum.cls ≠ "java/lang/invoke/MethodHandle" ∧ yX4_addToSum.cls ≠ "java/lang/invoke/VarHandle" ∧ (parseMethodDescriptor yX4_addToSum.desc).map (fun d => d.parameters.length) = some 1 := by decide +kernel
set_option maxRecDepth 100000 in
set_option maxHeartbeats 4000000 in
theorem k_X4_addToSum {D : va_G} {dT : Nat → ClassId} {ad : Nat → Nat} (I : Nat → Nat → Int32) (c : Nat) (hc : I 17 6 = nI c) (h300 : c ≤ 300) (sm : Int64) : KL yX4_addToSum wsX4_addToSum rm_X4_addToSum D dT ad I [.ref (ad 17), .long sm] (fun q J => I = J ∧ lts I sm c = q) := by
  intro l9
  refine cl_of (own := RX4) (cc := cX4_addToSum) (maxL := 6) [(0, .ref (ad 17)), (1, .long sm)] (by decide) rfl rfl rfl (Nat.le_of_ble_eq_true rfl) ?_
  intro X hX hE hN
  have q_w1 : Cond.fieldLink RX4 30 "Perforatum$SoundingLog" "count" "I" ∈ wsX4_addToSum := List.mem_of_getElem? (i := 1) rfl
  have q_inX4 : ∀ w ∈ wsX40, w ∈ wsX4_addToSum := by decide +kernel
  have q_w2 : Cond.constantLong RX4 38 (31) ∈ wsX4_addToSum := List.mem_of_getElem? (i := 2) rfl
  have q_w3 : Cond.fieldLink RX4 9 "Perforatum$SoundingLog" "notes" "[I" ∈ wsX4_addToSum := List.mem_of_getElem? (i := 3) rfl
  have q_w4 : Cond.fieldLink RX4 18 "Perforatum$SoundingLog" "firsts" "[I" ∈ wsX4_addToSum := List.mem_of_getElem? (i := 4) rfl
  have q_w5 : Cond.fieldLink RX4 24 "Perforatum$SoundingLog" "louds" "[I" ∈ wsX4_addToSum := List.mem_of_getElem? (i := 5) rfl
  refine g_lload_n hX 1 rfl dX4_addToSum_0 rfl ?_
  refine g_lstore_n hX [(3, .long sm), (0, .ref (ad 17)), (1, .long sm)] rfl dX4_addToSum_1 rfl (by decide) ?_
  refine g_iconst hX (0) dX4_addToSum_2 rfl ?_
  refine g_istore hX [(5, .int 0), (3, .long sm), (0, .ref (ad 17)), (1, .long sm)] rfl dX4_addToSum_3 (by decide) ?_
  have lp_5 : ∀ (n9 : Nat) (k : Nat) (q : Int64), c - k < n9 → k ≤ c → q = lts I sm k → CG X D dT ad I [(5, .int (nI k)), (3, .long q), (0, .ref (ad 17)), (1, .long sm)] 0 0 5 [] := by
    intro n9
    induction n9 with
    | zero => intro k q h9; exact absurd h9 (Nat.not_lt_zero _)
    | succ n9 ih9 =>
      intro k q h9 hk hq
      have ih_5 := ih9
      refine g_iload hX 0 rfl dX4_addToSum_5 ?_
      refine g_aload_n hX 2 rfl dX4_addToSum_7 rfl ?_
      refine cg_X4_count hX (by decide) rfl q_inX4 q_w1 dX4_addToSum_8 ?_
      refine g_eqi (y := (nI c)) hc ?_
      refine g_icmp_ge (tgt := 65) hX dX4_addToSum_11 (by decide) (fun c_11 => ?_) (fun c_11 => ?_)
      · have c_11 : c ≤ k := (nI_leI (a := c) (b := k) (by omega) (by omega)).mp c_11
        refine g_lload_n hX 1 rfl dX4_addToSum_65 rfl ?_
        refine g_lret hX hE dX4_addToSum_66 (by omega) (by omega) ?_
        exact ⟨_, rfl, rfl, by rw [hq, show k = c by omega]⟩
      · have c_11 : ¬ c ≤ k := fun h9 => c_11 ((nI_leI (a := c) (b := k) (by omega) (by omega)).mpr h9)
        refine g_ldc2 hX (31) q_w2 dX4_addToSum_14 ?_
        refine g_lload_n hX 1 rfl dX4_addToSum_17 rfl ?_
        refine g_lmul hX dX4_addToSum_18 ?_
        refine g_aload_n hX 2 rfl dX4_addToSum_19 rfl ?_
        refine cg_X4_notes hX (by decide) rfl q_inX4 q_w3 rfl dX4_addToSum_20 ?_
        refine g_iload hX 0 rfl dX4_addToSum_23 ?_
        refine c_ialdk hX k (by decide) rfl (by show _ < (300 : Nat); omega) (by omega) dX4_addToSum_25 ?_
        refine g_i2l hX dX4_addToSum_26 ?_
        refine g_ladd hX dX4_addToSum_27 ?_
        refine g_lstore_n hX [(3, .long (((31) * q) + ((I 18 k).toInt64))), (5, .int (nI k)), (0, .ref (ad 17)), (1, .long sm)] rfl dX4_addToSum_28 rfl (by decide) ?_
        refine g_ldc2 hX (31) q_w2 dX4_addToSum_29 ?_
        refine g_lload_n hX 0 rfl dX4_addToSum_32 rfl ?_
        refine g_lmul hX dX4_addToSum_33 ?_
        refine g_aload_n hX 2 rfl dX4_addToSum_34 rfl ?_
        refine cg_X4_firsts hX (by decide) rfl q_inX4 q_w4 rfl dX4_addToSum_35 ?_
        refine g_iload hX 1 rfl dX4_addToSum_38 ?_
        refine c_ialdk hX k (by decide) rfl (by show _ < (300 : Nat); omega) (by omega) dX4_addToSum_40 ?_
        refine g_i2l hX dX4_addToSum_41 ?_
        refine g_ladd hX dX4_addToSum_42 ?_
        refine g_lstore_n hX [(3, .long (((31) * (((31) * q) + ((I 18 k).toInt64))) + ((I 20 k).toInt64))), (5, .int (nI k)), (0, .ref (ad 17)), (1, .long sm)] rfl dX4_addToSum_43 rfl (by decide) ?_
        refine g_ldc2 hX (31) q_w2 dX4_addToSum_44 ?_
        refine g_lload_n hX 0 rfl dX4_addToSum_47 rfl ?_
        refine g_lmul hX dX4_addToSum_48 ?_
        refine g_aload_n hX 2 rfl dX4_addToSum_49 rfl ?_
        refine cg_X4_louds hX (by decide) rfl q_inX4 q_w5 rfl dX4_addToSum_50 ?_
        refine g_iload hX 1 rfl dX4_addToSum_53 ?_
        refine c_ialdk hX k (by decide) rfl (by show _ < (300 : Nat); omega) (by omega) dX4_addToSum_55 ?_
        refine g_i2l hX dX4_addToSum_56 ?_
        refine g_ladd hX dX4_addToSum_57 ?_
        refine g_lstore_n hX [(3, .long (((31) * (((31) * (((31) * q) + ((I 18 k).toInt64))) + ((I 20 k).toInt64))) + ((I 22 k).toInt64))), (5, .int (nI k)), (0, .ref (ad 17)), (1, .long sm)] rfl dX4_addToSum_58 rfl (by decide) ?_
        refine g_iinc hX (nI (k + 1)) [(5, .int (nI (k + 1))), (3, .long (((31) * (((31) * (((31) * q) + ((I 18 k).toInt64))) + ((I 20 k).toInt64))) + ((I 22 k).toInt64))), (0, .ref (ad 17)), (1, .long sm)] (k := 1) rfl (g_inc k) rfl dX4_addToSum_59 (by decide) ?_
        refine g_goto (tgt := 5) hX dX4_addToSum_62 (by decide) ?_
        refine g_lv [0, 1, 2, 3] rfl ?_
        exact ih_5 (k + 1) (((31) * (((31) * (((31) * q) + ((I 18 k).toInt64))) + ((I 20 k).toInt64))) + ((I 22 k).toInt64)) (by omega) (by omega) (by rw [hq]; rfl)
  refine g_lv [0, 1, 2, 3] rfl ?_
  exact lp_5 _ 0 sm (Nat.lt_succ_self _) (Nat.zero_le _) rfl
abbrev rm_X4_isWellTimed : Room := { frames := 0, cells := 0, slots := 0, locals := 0 }
theorem hd_X4_isWellTimed : yX4_isWellTimed.cls = RX4 ∧ yX4_isWellTimed.cls ≠ "java/lang/invoke/MethodHandle" ∧ yX4_isWellTimed.cls ≠ "java/lang/invoke/VarHandle" ∧ (parseMethodDescriptor yX4_isWellTimed.desc).map (fun d => d.parameters.length) = some 1 := by decide +kernel
set_option maxRecDepth 100000 in
set_option maxHeartbeats 4000000 in
theorem k_X4_isWellTimed {D : va_G} {dT : Nat → ClassId} {ad : Nat → Nat} (I : Nat → Nat → Int32) (k : Nat) (hk : k < 300) : KI yX4_isWellTimed wsX4_isWellTimed rm_X4_isWellTimed D dT ad I [.ref (ad 17), .int (nI k)] (fun r J => I = J ∧ lwt I k = r) := by
  intro l9
  refine ci_of (own := RX4) (cc := cX4_isWellTimed) (maxL := 2) (some .boolean) [(0, .ref (ad 17)), (1, .int (nI k))] (by decide) rfl rfl rfl (Nat.le_of_ble_eq_true rfl) ?_
  intro X hX hE hN
  have q_w1 : Cond.fieldLink RX4 18 "Perforatum$SoundingLog" "firsts" "[I" ∈ wsX4_isWellTimed := List.mem_of_getElem? (i := 1) rfl
  have q_inX4 : ∀ w ∈ wsX40, w ∈ wsX4_isWellTimed := by decide +kernel
  have q_w2 : Cond.fieldLink RX4 15 "Perforatum$SoundingLog" "openings" "[I" ∈ wsX4_isWellTimed := List.mem_of_getElem? (i := 2) rfl
  have q_w3 : Cond.fieldLink RX4 21 "Perforatum$SoundingLog" "lasts" "[I" ∈ wsX4_isWellTimed := List.mem_of_getElem? (i := 3) rfl
  refine g_aload_n hX 0 rfl dX4_isWellTimed_0 rfl ?_
  refine cg_X4_firsts hX (by decide) rfl q_inX4 q_w1 rfl dX4_isWellTimed_1 ?_
  refine g_iload_n hX 1 rfl dX4_isWellTimed_4 rfl ?_
  refine c_ialdk hX k (by decide) rfl (by show _ < (300 : Nat); omega) (by omega) dX4_isWellTimed_5 ?_
  refine g_aload_n hX 0 rfl dX4_isWellTimed_6 rfl ?_
  refine cg_X4_openings hX (by decide) rfl q_inX4 q_w2 rfl dX4_isWellTimed_7 ?_
  refine g_iload_n hX 1 rfl dX4_isWellTimed_10 rfl ?_
  refine c_ialdk hX k (by decide) rfl (by show _ < (300 : Nat); omega) (by omega) dX4_isWellTimed_11 ?_
  refine g_icmp_lt (tgt := 44) hX dX4_isWellTimed_12 (by decide) (fun c_12 => ?_) (fun c_12 => ?_)
  · refine g_iconst hX (0) dX4_isWellTimed_44 rfl ?_
    refine g_zret hX rfl hE dX4_isWellTimed_45 (by omega) (by omega) ?_
    exact ⟨_, rfl, rfl, by simp only [lwt, c_12, if_true, if_false]⟩
  · refine g_aload_n hX 0 rfl dX4_isWellTimed_15 rfl ?_
    refine cg_X4_lasts hX (by decide) rfl q_inX4 q_w3 rfl dX4_isWellTimed_16 ?_
    refine g_iload_n hX 1 rfl dX4_isWellTimed_19 rfl ?_
    refine c_ialdk hX k (by decide) rfl (by show _ < (300 : Nat); omega) (by omega) dX4_isWellTimed_20 ?_
    refine g_iconst hX (-1) dX4_isWellTimed_21 rfl ?_
    refine g_icmp_eq (tgt := 40) hX dX4_isWellTimed_22 (by decide) (fun c_22 => ?_) (fun c_22 => ?_)
    · refine g_iconst hX (1) dX4_isWellTimed_40 rfl ?_
      refine g_goto (tgt := 45) hX dX4_isWellTimed_41 (by decide) ?_
      refine g_zret hX rfl hE dX4_isWellTimed_45 (by omega) (by omega) ?_
      exact ⟨_, rfl, rfl, by simp only [lwt, c_12, c_22, if_true, if_false]⟩
    · refine g_aload_n hX 0 rfl dX4_isWellTimed_25 rfl ?_
      refine cg_X4_lasts hX (by decide) rfl q_inX4 q_w3 rfl dX4_isWellTimed_26 ?_
      refine g_iload_n hX 1 rfl dX4_isWellTimed_29 rfl ?_
      refine c_ialdk hX k (by decide) rfl (by show _ < (300 : Nat); omega) (by omega) dX4_isWellTimed_30 ?_
      refine g_aload_n hX 0 rfl dX4_isWellTimed_31 rfl ?_
      refine cg_X4_firsts hX (by decide) rfl q_inX4 q_w1 rfl dX4_isWellTimed_32 ?_
      refine g_iload_n hX 1 rfl dX4_isWellTimed_35 rfl ?_
      refine c_ialdk hX k (by decide) rfl (by show _ < (300 : Nat); omega) (by omega) dX4_isWellTimed_36 ?_
      refine g_icmp_lt (tgt := 44) hX dX4_isWellTimed_37 (by decide) (fun c_37 => ?_) (fun c_37 => ?_)
      · refine g_iconst hX (0) dX4_isWellTimed_44 rfl ?_
        refine g_zret hX rfl hE dX4_isWellTimed_45 (by omega) (by omega) ?_
        exact ⟨_, rfl, rfl, by simp only [lwt, c_12, c_22, c_37, if_true, if_false]⟩
      · refine g_iconst hX (1) dX4_isWellTimed_40 rfl ?_
        refine g_goto (tgt := 45) hX dX4_isWellTimed_41 (by decide) ?_
        refine g_zret hX rfl hE dX4_isWellTimed_45 (by omega) (by omega) ?_
        exact ⟨_, rfl, rfl, by simp only [lwt, c_12, c_22, c_37, if_true, if_false]⟩
abbrev rm_X4_isInOrder : Room := { frames := 1, cells := 0, slots := 0, locals := 21 }
theorem hd_X4_isInOrder : yX4_isInOrder.cls = RX4 ∧ yX4_isInOrder.cls ≠ "java/lang/invoke/MethodHandle" ∧ yX4_isInOrder.cls ≠ "java/lang/invoke/VarHandle" ∧ (parseMethodDescriptor yX4_isInOrder.desc).map (fun d => d.parameters.length) = some 0 := by decide +kernel
set_option maxRecDepth 100000 in
set_option maxHeartbeats 4000000 in
theorem k_X4_isInOrder {D : va_G} {dT : Nat → ClassId} {ad : Nat → Nat} (I : Nat → Nat → Int32) (c : Nat) (hc : I 17 6 = nI c) (h300 : c ≤ 300) : KI yX4_isInOrder wsX4_isInOrder rm_X4_isInOrder D dT ad I [.ref (ad 17)] (fun r J => ∃ g, upr I 23 g = J ∧ lio I c 0 (fun _ => -1) = r) := by
  intro l9
  refine ci_of (own := RX4) (cc := cX4_isInOrder) (maxL := 3) (some .boolean) [(0, .ref (ad 17))] (by decide) rfl rfl rfl (Nat.le_of_ble_eq_true rfl) ?_
  intro X hX hE hN
  have q_w2 : Cond.fieldLink RX4 30 "Perforatum$SoundingLog" "count" "I" ∈ wsX4_isInOrder := List.mem_of_getElem? (i := 2) rfl
  have q_inX4 : ∀ w ∈ wsX40, w ∈ wsX4_isInOrder := by decide +kernel
  have q_w3 : Cond.fieldLink RX4 9 "Perforatum$SoundingLog" "notes" "[I" ∈ wsX4_isInOrder := List.mem_of_getElem? (i := 3) rfl
  have q_w4 : Cond.fieldLink RX4 18 "Perforatum$SoundingLog" "firsts" "[I" ∈ wsX4_isInOrder := List.mem_of_getElem? (i := 4) rfl
  have q_w1 : Cond.fieldLink RX4 27 "Perforatum$SoundingLog" "heardTo" "[I" ∈ wsX4_isInOrder := List.mem_of_getElem? (i := 1) rfl
  have q_w5 : Cond.fieldLink RX4 21 "Perforatum$SoundingLog" "lasts" "[I" ∈ wsX4_isInOrder := List.mem_of_getElem? (i := 5) rfl
  refine g_iconst hX (0) dX4_isInOrder_0 rfl ?_
  refine g_istore_n hX [(1, .int 0), (0, .ref (ad 17))] rfl dX4_isInOrder_1 rfl (by decide) ?_
  have lp_2 : ∀ (n9 : Nat) (k : Nat) (J : Nat → Nat → Int32), 12 - k < n9 → k ≤ 12 → J = upr I 23 (fun r => if r < k then -1 else I 23 r) → CG X D dT ad J [(1, .int (nI k)), (0, .ref (ad 17))] 0 0 2 [] := by
    intro n9
    induction n9 with
    | zero => intro k J h9; exact absurd h9 (Nat.not_lt_zero _)
    | succ n9 ih9 =>
      intro k J h9 hk hJ
      have ih_2 := ih9
      refine g_iload_n hX 0 rfl dX4_isInOrder_2 rfl ?_
      refine g_bipush hX (12) dX4_isInOrder_3 rfl ?_
      refine g_icmp_ge (tgt := 21) hX dX4_isInOrder_5 (by decide) (fun c_5 => ?_) (fun c_5 => ?_)
      · have c_5 : 12 ≤ k := (nI_leI (a := 12) (b := k) (by omega) (by omega)).mp c_5
        refine g_iconst hX (0) dX4_isInOrder_21 rfl ?_
        refine g_istore_n hX [(1, .int 0), (0, .ref (ad 17))] rfl dX4_isInOrder_22 rfl (by decide) ?_
        have lp_23 : ∀ (n9 : Nat) (k : Nat) (J : Nat → Nat → Int32) (g : Nat → Int32), c - k < n9 → k ≤ c → J = upr I 23 g → lio I c 0 (fun r => if r < 12 then -1 else I 23 r) = lio I (c - k) k g → CG X D dT ad J [(1, .int (nI k)), (0, .ref (ad 17))] 0 0 23 [] := by
          intro n9
          induction n9 with
          | zero => intro k J g h9; exact absurd h9 (Nat.not_lt_zero _)
          | succ n9 ih9 =>
            intro k J g h9 hk hJ hs
            have ih_23 := ih9
            have h17 : J 17 = I 17 := by rw [hJ]; exact upr_n (by omega)
            have h18 : J 18 = I 18 := by rw [hJ]; exact upr_n (by omega)
            have h19 : J 19 = I 19 := by rw [hJ]; exact upr_n (by omega)
            have h20 : J 20 = I 20 := by rw [hJ]; exact upr_n (by omega)
            have h21 : J 21 = I 21 := by rw [hJ]; exact upr_n (by omega)
            refine g_iload_n hX 0 rfl dX4_isInOrder_23 rfl ?_
            refine g_aload_n hX 1 rfl dX4_isInOrder_24 rfl ?_
            refine cg_X4_count hX (by decide) rfl q_inX4 q_w2 dX4_isInOrder_25 ?_
            refine g_eqi (y := (nI c)) ((congrFun h17 6).trans hc) ?_
            refine g_icmp_ge (tgt := 107) hX dX4_isInOrder_28 (by decide) (fun c_28 => ?_) (fun c_28 => ?_)
            · have c_28 : c ≤ k := (nI_leI (a := c) (b := k) (by omega) (by omega)).mp c_28
              refine g_iconst hX (1) dX4_isInOrder_107 rfl ?_
              refine g_zret hX rfl hE dX4_isInOrder_108 (by omega) (by omega) ?_
              exact ⟨_, rfl, g, hJ.symm, by rw [← lio12, hs, show c - k = 0 by omega]; rfl⟩
            · have c_28 : ¬ c ≤ k := fun h9 => c_28 ((nI_leI (a := c) (b := k) (by omega) (by omega)).mpr h9)
              refine g_aload_n hX 1 rfl dX4_isInOrder_31 rfl ?_
              refine cg_X4_notes hX (by decide) rfl q_inX4 q_w3 rfl dX4_isInOrder_32 ?_
              refine g_iload_n hX 0 rfl dX4_isInOrder_35 rfl ?_
              refine c_ialdk hX k (by decide) rfl (by show _ < (300 : Nat); omega) (by omega) dX4_isInOrder_36 ?_
              refine g_eqi (y := (I 18 k)) (congrFun h18 k) ?_
              refine g_istore_n hX [(2, .int (I 18 k)), (1, .int (nI k)), (0, .ref (ad 17))] rfl dX4_isInOrder_37 rfl (by decide) ?_
              refine g_iload_n hX 0 rfl dX4_isInOrder_38 rfl ?_
              refine g_if_lt (tgt := 71) hX dX4_isInOrder_39 (by decide) (fun c_39 => ?_) (fun c_39 => ?_)
              · refine g_iconst hX (0) dX4_isInOrder_71 rfl ?_
                refine g_zret hX rfl hE dX4_isInOrder_72 (by omega) (by omega) ?_
                exact ⟨_, rfl, g, hJ.symm, by rw [← lio12, hs, show c - k = (c - (k + 1)) + 1 by omega, lio]; simp only [c_39, if_true, if_false]⟩
              · refine g_iload_n hX 0 rfl dX4_isInOrder_42 rfl ?_
                refine g_bipush hX (12) dX4_isInOrder_43 rfl ?_
                refine g_icmp_ge (tgt := 71) hX dX4_isInOrder_45 (by decide) (fun c_45 => ?_) (fun c_45 => ?_)
                · refine g_iconst hX (0) dX4_isInOrder_71 rfl ?_
                  refine g_zret hX rfl hE dX4_isInOrder_72 (by omega) (by omega) ?_
                  exact ⟨_, rfl, g, hJ.symm, by rw [← lio12, hs, show c - k = (c - (k + 1)) + 1 by omega, lio]; simp only [c_39, c_45, if_true, if_false]⟩
                · refine g_aload_n hX 2 rfl dX4_isInOrder_48 rfl ?_
                  refine g_iload_n hX 1 rfl dX4_isInOrder_49 rfl ?_
                  refine c_callI_V hX [.int (nI k)] 8 (by decide) rfl (by decide) rfl (k_X4_isWellTimed J k (by omega)) gX4_isInOrder_X4_isWellTimed rfl rfl rfl hd_X4_isWellTimed ⟨Nat.le_of_ble_eq_true rfl, Nat.le_of_ble_eq_true rfl⟩ ⟨Nat.zero_le _, Nat.zero_le _⟩ rfl (Nat.le_of_ble_eq_true rfl) dX4_isInOrder_50 (fun r_50 J_50 h_50 => ?_)
                  obtain ⟨rfl, rfl⟩ := h_50
                  refine g_eqi (y := (lwt I k)) (lwt_row h19 h20 h21) ?_
                  refine g_if_eq (tgt := 71) hX dX4_isInOrder_53 (by decide) (fun c_53 => ?_) (fun c_53 => ?_)
                  · refine g_iconst hX (0) dX4_isInOrder_71 rfl ?_
                    refine g_zret hX rfl hE dX4_isInOrder_72 (by omega) (by omega) ?_
                    exact ⟨_, rfl, g, hJ.symm, by rw [← lio12, hs, show c - k = (c - (k + 1)) + 1 by omega, lio]; simp only [c_39, c_45, c_53, if_true, if_false]⟩
                  · refine g_aload_n hX 2 rfl dX4_isInOrder_56 rfl ?_
                    refine cg_X4_firsts hX (by decide) rfl q_inX4 q_w4 rfl dX4_isInOrder_57 ?_
                    refine g_iload_n hX 1 rfl dX4_isInOrder_60 rfl ?_
                    refine c_ialdk hX k (by decide) rfl (by show _ < (300 : Nat); omega) (by omega) dX4_isInOrder_61 ?_
                    refine g_eqi (y := (I 20 k)) (congrFun h20 k) ?_
                    refine g_aload_n hX 2 rfl dX4_isInOrder_62 rfl ?_
                    refine cg_X4_heardTo hX (by decide) rfl q_inX4 q_w1 rfl dX4_isInOrder_63 ?_
                    refine g_iload_n hX 0 rfl dX4_isInOrder_66 rfl ?_
                    refine c_iald hX (by decide) rfl (vin12 c_39 c_45) dX4_isInOrder_67 ?_
                    refine g_eqi (y := (g (I 18 k).toNatClampNeg)) (by rw [hJ, upr_s]) ?_
                    refine g_icmp_gt (tgt := 73) hX dX4_isInOrder_68 (by decide) (fun c_68 => ?_) (fun c_68 => ?_)
                    · refine g_aload_n hX 2 rfl dX4_isInOrder_73 rfl ?_
                      refine cg_X4_heardTo hX (by decide) rfl q_inX4 q_w1 rfl dX4_isInOrder_74 ?_
                      refine g_iload_n hX 0 rfl dX4_isInOrder_77 rfl ?_
                      refine g_aload_n hX 2 rfl dX4_isInOrder_78 rfl ?_
                      refine cg_X4_lasts hX (by decide) rfl q_inX4 q_w5 rfl dX4_isInOrder_79 ?_
                      refine g_iload_n hX 1 rfl dX4_isInOrder_82 rfl ?_
                      refine c_ialdk hX k (by decide) rfl (by show _ < (300 : Nat); omega) (by omega) dX4_isInOrder_83 ?_
                      refine g_eqi (y := (I 21 k)) (congrFun h21 k) ?_
                      refine g_iconst hX (-1) dX4_isInOrder_84 rfl ?_
                      refine g_icmp_ne (tgt := 94) hX dX4_isInOrder_85 (by decide) (fun c_85 => ?_) (fun c_85 => ?_)
                      · refine g_aload_n hX 2 rfl dX4_isInOrder_94 rfl ?_
                        refine cg_X4_lasts hX (by decide) rfl q_inX4 q_w5 rfl dX4_isInOrder_95 ?_
                        refine g_iload_n hX 1 rfl dX4_isInOrder_98 rfl ?_
                        refine c_ialdk hX k (by decide) rfl (by show _ < (300 : Nat); omega) (by omega) dX4_isInOrder_99 ?_
                        refine g_eqi (y := (I 21 k)) (congrFun h21 k) ?_
                        refine c_iastx hX (by decide) rfl (vin12 c_39 c_45) dX4_isInOrder_100 ?_
                        refine g_iinc hX (nI (k + 1)) [(1, .int (nI (k + 1))), (2, .int (I 18 k)), (0, .ref (ad 17))] (k := 1) rfl (g_inc k) rfl dX4_isInOrder_101 (by decide) ?_
                        refine g_goto (tgt := 23) hX dX4_isInOrder_104 (by decide) ?_
                        refine g_lv [0, 2] rfl ?_
                        exact ih_23 (k + 1) (up2 J 23 ((I 18 k).toNatClampNeg) (I 21 k)) (upd g (I 18 k).toNatClampNeg (I 21 k)) (by omega) (by omega) (by rw [hJ, upr_up2]) (hs.trans (by rw [show c - k = (c - (k + 1)) + 1 by omega, lio]; simp only [c_39, c_45, c_53, c_68, c_85, if_true, if_false]))
                      · refine g_sipush hX (200) dX4_isInOrder_88 rfl ?_
                        refine g_goto (tgt := 100) hX dX4_isInOrder_91 (by decide) ?_
                        refine c_iastx hX (by decide) rfl (vin12 c_39 c_45) dX4_isInOrder_100 ?_
                        refine g_iinc hX (nI (k + 1)) [(1, .int (nI (k + 1))), (2, .int (I 18 k)), (0, .ref (ad 17))] (k := 1) rfl (g_inc k) rfl dX4_isInOrder_101 (by decide) ?_
                        refine g_goto (tgt := 23) hX dX4_isInOrder_104 (by decide) ?_
                        refine g_lv [0, 2] rfl ?_
                        exact ih_23 (k + 1) (up2 J 23 ((I 18 k).toNatClampNeg) 200) (upd g (I 18 k).toNatClampNeg 200) (by omega) (by omega) (by rw [hJ, upr_up2]) (hs.trans (by rw [show c - k = (c - (k + 1)) + 1 by omega, lio]; simp only [c_39, c_45, c_53, c_68, c_85, if_true, if_false]))
                    · refine g_iconst hX (0) dX4_isInOrder_71 rfl ?_
                      refine g_zret hX rfl hE dX4_isInOrder_72 (by omega) (by omega) ?_
                      exact ⟨_, rfl, g, hJ.symm, by rw [← lio12, hs, show c - k = (c - (k + 1)) + 1 by omega, lio]; simp only [c_39, c_45, c_53, c_68, if_true, if_false]⟩
        refine g_lv [0, 1] rfl ?_
        exact lp_23 _ 0 J (fun r => if r < k then -1 else I 23 r) (Nat.lt_succ_self _) (Nat.zero_le _) hJ (by rw [show k = 12 by omega]; rfl)
      · have c_5 : ¬ 12 ≤ k := fun h9 => c_5 ((nI_leI (a := 12) (b := k) (by omega) (by omega)).mpr h9)
        refine g_aload_n hX 1 rfl dX4_isInOrder_8 rfl ?_
        refine cg_X4_heardTo hX (by decide) rfl q_inX4 q_w1 rfl dX4_isInOrder_9 ?_
        refine g_iload_n hX 0 rfl dX4_isInOrder_12 rfl ?_
        refine g_iconst hX (-1) dX4_isInOrder_13 rfl ?_
        refine c_iastk hX k (by decide) rfl (by show _ < (12 : Nat); omega) (by omega) dX4_isInOrder_14 ?_
        refine g_iinc hX (nI (k + 1)) [(1, .int (nI (k + 1))), (0, .ref (ad 17))] (k := 0) rfl (g_inc k) rfl dX4_isInOrder_15 (by decide) ?_
        refine g_goto (tgt := 2) hX dX4_isInOrder_18 (by decide) ?_
        refine g_lv [0, 1] rfl ?_
        exact ih_2 (k + 1) (up2 J 23 k (-1)) (by omega) (by omega) (by rw [hJ]; exact upr_up (if_pos (Nat.lt_succ_self k)) (fun j2 h2 => ite_lt h2))
  refine g_lv [0, 1] rfl ?_
  exact lp_2 _ 0 I (Nat.lt_succ_self _) (Nat.zero_le _) (upr_id (fun _ => if_neg (Nat.not_lt_zero _))).symm

