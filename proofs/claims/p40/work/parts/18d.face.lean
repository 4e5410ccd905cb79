abbrev rm_X6_arrange : Room := { frames := 7, cells := 1, slots := 6, locals := 103 }
theorem hd_X6_arrange : yX6_arrange.cls = RX6 ∧ yX6_arrange.cls ≠ "java/lang/invoke/MethodHandle" ∧ yX6_arrange.cls ≠ "java/lang/invoke/VarHandle" ∧ (parseMethodDescriptor yX6_arrange.desc).map (fun d => d.parameters.length) = some 2 := by decide +kernel
set_option maxRecDepth 100000 in
set_option maxHeartbeats 4000000 in
theorem k_X6_arrange {D : va_G} {dT : Nat → ClassId} {ad : Nat → Nat} (I : Nat → Nat → Int32) (c : Nat) (hc : I 2 3 = nI c) (h40 : c ≤ 40) (ln : Nat → Nat) (hln : ∀ n, n < c → I 13 n = nI (ln n) ∧ ln n ≤ 200) (r br : Int32) : KTI yX6_arrange wsX6_arrange rm_X6_arrange D dT ad I [.ref (ad 0), .int r, .int br] 1 6 (fun q9 J => kr1 I r = 0 ∧ arr1 I r br ln c = J ∧ sumB (fun q => bcnt (arr1 I r br ln c (8 + r.toNatClampNeg) q &&& 4095)) 200 = q9) (fun E => (E = xIO ∧ (kr1 I r) = 1)) := by
  intro l9 hl9
  refine ti_of hl9 (own := RX6) (cc := cX6_arrange) (maxL := 4) (some .int) [(0, .ref (ad 0)), (1, .int r), (2, .int br)] (by decide) rfl rfl rfl (Nat.le_of_ble_eq_true rfl) ?_
  intro X hX hE hN
  have hQ := FI.x hE
  have q_w1 : Cond.fieldLink RX6 18 "Perforatum" "music" "LPerforatum$Music;" ∈ wsX6_arrange := List.mem_of_getElem? (i := 1) rfl
  have q_inX6 : ∀ w ∈ wsX60, w ∈ wsX6_arrange := by decide +kernel
  have q_w2 : Cond.fieldLink RX6 48 "Perforatum" "arrangedRoll" "I" ∈ wsX6_arrange := List.mem_of_getElem? (i := 2) rfl
  refine g_aload_n hX 0 rfl dX6_arrange_0 rfl ?_
  refine g_iload_n hX 1 rfl dX6_arrange_1 rfl ?_
  refine ct_callQ_V hX hQ [.int r] 10 (by decide) rfl (by decide) rfl (k_X6_demandPaper I r) gX6_arrange_X6_demandPaper rfl rfl rfl hd_X6_demandPaper ⟨Nat.le_of_ble_eq_true rfl, Nat.le_of_ble_eq_true rfl⟩ ⟨Nat.le_of_ble_eq_true rfl, Nat.le_of_ble_eq_true rfl⟩ (Nat.le_of_ble_eq_true rfl) (Nat.le_of_ble_eq_true rfl) (fun E h9 => by obtain ⟨rfl, h9⟩ := h9; exact ⟨rfl, by simp [kr1, h9]⟩) rfl (Nat.le_of_ble_eq_true rfl) dX6_arrange_2 (fun r_2 J_2 h_2 => ?_)
  obtain ⟨rfl, rfl, hi_2, rp_2⟩ := h_2
  refine g_stk (st2 := .ref (ad (4 + r.toNatClampNeg)) :: []) rfl ?_
  refine g_astore_n hX [(3, .ref (ad (4 + r.toNatClampNeg))), (0, .ref (ad 0)), (1, .int r), (2, .int br)] rfl dX6_arrange_5 rfl (by decide) ?_
  refine g_aload_n hX 0 rfl dX6_arrange_6 rfl ?_
  refine c_callV_V hX [] 5 (by omega) (cK_p hi_2) (by decide) rfl (k_X1_mendPitches I r.toNatClampNeg hi_2) gX6_arrange_X1_mendPitches rfl rfl rfl hd_X1_mendPitches ⟨Nat.le_of_ble_eq_true rfl, Nat.le_of_ble_eq_true rfl⟩ ⟨Nat.le_of_ble_eq_true rfl, Nat.le_of_ble_eq_true rfl⟩ rfl (Nat.le_of_ble_eq_true rfl) dX6_arrange_7 (fun J_7 h_7 => ?_)
  subst h_7
  refine g_aload_n hX 1 rfl dX6_arrange_10 rfl ?_
  refine cg_X6_music hX (by decide) rfl q_inX6 q_w1 rfl dX6_arrange_11 ?_
  refine g_aload_n hX 0 rfl dX6_arrange_14 rfl ?_
  refine g_iload_n hX 3 rfl dX6_arrange_15 rfl ?_
  refine c_callV_V hX [.ref (ad (4 + r.toNatClampNeg)), .int br] 4 (by decide) rfl (by decide) rfl (k_X0_punchInto (upr I (8 + r.toNatClampNeg) (fun q9 => if q9 < 200 then I (8 + r.toNatClampNeg) q9 &&& (-4096) else I (8 + r.toNatClampNeg) q9)) r.toNatClampNeg hi_2 c (by rw [upr_n (by omega)]; exact hc) h40 ln (fun n hn => by rw [upr_n (by omega)]; exact hln n hn) br) gX6_arrange_X0_punchInto rfl rfl rfl hd_X0_punchInto ⟨Nat.le_of_ble_eq_true rfl, Nat.le_of_ble_eq_true rfl⟩ ⟨Nat.le_of_ble_eq_true rfl, Nat.le_of_ble_eq_true rfl⟩ rfl (Nat.le_of_ble_eq_true rfl) dX6_arrange_16 (fun J_16 h_16 => ?_)
  subst h_16
  refine g_aload_n hX 1 rfl dX6_arrange_19 rfl ?_
  refine g_iload_n hX 2 rfl dX6_arrange_20 rfl ?_
  refine cp_X6_arrangedRoll hX (by decide) rfl q_inX6 q_w2 dX6_arrange_21 ?_
  refine c_I (J := arr1 I r br ln c) rfl ?_
  refine g_aload_n hX 0 rfl dX6_arrange_24 rfl ?_
  refine g_sipush hX (4095) dX6_arrange_25 rfl ?_
  refine c_callI_V hX [.int 4095] 5 (by omega) (cK_p hi_2) (by decide) rfl (k_X1_countHoles (arr1 I r br ln c) r.toNatClampNeg hi_2 4095) gX6_arrange_X1_countHoles rfl rfl rfl hd_X1_countHoles ⟨Nat.le_of_ble_eq_true rfl, Nat.le_of_ble_eq_true rfl⟩ ⟨Nat.le_of_ble_eq_true rfl, Nat.le_of_ble_eq_true rfl⟩ rfl (Nat.le_of_ble_eq_true rfl) dX6_arrange_28 (fun r_28 J_28 h_28 => ?_)
  obtain ⟨rfl, rfl⟩ := h_28
  refine t_iret hX hE dX6_arrange_31 (Nat.le_of_ble_eq_true rfl) (Nat.le_of_ble_eq_true rfl) ?_
  exact ⟨_, rfl, by simp [kr1, rp_2], rfl, rfl⟩
abbrev rm_X6_scan : Room := { frames := 7, cells := 2, slots := 12, locals := 103 }
theorem hd_X6_scan : yX6_scan.cls = RX6 ∧ yX6_scan.cls ≠ "java/lang/invoke/MethodHandle" ∧ yX6_scan.cls ≠ "java/lang/invoke/VarHandle" ∧ (parseMethodDescriptor yX6_scan.desc).map (fun d => d.parameters.length) = some 3 := by decide +kernel
set_option maxRecDepth 100000 in
set_option maxHeartbeats 4000000 in
theorem k_X6_scan {D : va_G} {dT : Nat → ClassId} {ad : Nat → Nat} (I : Nat → Nat → Int32) (r x w : Int32) : KTI yX6_scan wsX6_scan rm_X6_scan D dT ad I [.ref (ad 0), .int r, .int x, .int w] 2 12 (fun q9 J => ksc I r x w = 0 ∧ I = J ∧ scv I r x w = q9) (fun E => (E = xIO ∧ (ksc I r x w) = 1) ∨ (E = xIA ∧ (ksc I r x w) = 2) ∨ (E = xNS ∧ (ksc I r x w) = 3)) := by
  intro l9 hl9
  refine ti_of hl9 (own := RX6) (cc := cX6_scan) (maxL := 8) (some .int) [(0, .ref (ad 0)), (1, .int r), (2, .int x), (3, .int w)] (by decide) rfl rfl rfl (Nat.le_of_ble_eq_true rfl) ?_
  intro X hX hE hN
  have hQ := FI.x hE
  have q_w3 : Cond.classLink RX6 100 "java/util/NoSuchElementException" ∈ wsX6_scan := List.mem_of_getElem? (i := 3) rfl
  have q_w4 : Cond.initialized "java/util/NoSuchElementException" ∈ wsX6_scan := List.mem_of_getElem? (i := 4) rfl
  have q_hat104 : ∀ w ∈ nx_at.filter goodWord, w ∈ wsX6_scan := by decide +kernel
  have q_w1 : Cond.classLink RX6 142 "java/lang/IllegalArgumentException" ∈ wsX6_scan := List.mem_of_getElem? (i := 1) rfl
  have q_w2 : Cond.initialized "java/lang/IllegalArgumentException" ∈ wsX6_scan := List.mem_of_getElem? (i := 2) rfl
  have q_hat146 : ∀ w ∈ (vx_atS RX6 146 "java/lang/IllegalArgumentException" ["java/lang/RuntimeException", "java/lang/Exception"]).filter goodWord, w ∈ wsX6_scan := by decide +kernel
  refine g_aload_n hX 0 rfl dX6_scan_0 rfl ?_
  refine g_iload_n hX 1 rfl dX6_scan_1 rfl ?_
  refine ct_callQ_V hX hQ [.int r] 10 (by decide) rfl (by decide) rfl (k_X6_demandPaper I r) gX6_scan_X6_demandPaper rfl rfl rfl hd_X6_demandPaper ⟨Nat.le_of_ble_eq_true rfl, Nat.le_of_ble_eq_true rfl⟩ ⟨Nat.le_of_ble_eq_true rfl, Nat.le_of_ble_eq_true rfl⟩ (Nat.le_of_ble_eq_true rfl) (Nat.le_of_ble_eq_true rfl) (fun E h9 => by obtain ⟨rfl, h9⟩ := h9; exact ⟨rfl, by simp [ksc, h9]⟩) rfl (Nat.le_of_ble_eq_true rfl) dX6_scan_2 (fun r_2 J_2 h_2 => ?_)
  obtain ⟨rfl, rfl, hi_2, rp_2⟩ := h_2
  refine g_stk (st2 := .ref (ad (4 + r.toNatClampNeg)) :: []) rfl ?_
  refine g_astore hX [(4, .ref (ad (4 + r.toNatClampNeg))), (0, .ref (ad 0)), (1, .int r), (2, .int x), (3, .int w)] rfl dX6_scan_5 (by decide) ?_
  refine g_iload_n hX 4 rfl dX6_scan_7 rfl ?_
  refine g_bipush hX (102) dX6_scan_8 rfl ?_
  refine g_icmp_eq (tgt := 35) hX dX6_scan_10 (by decide) (fun c_10 => ?_) (fun c_10 => ?_)
  · refine g_aload hX 0 rfl dX6_scan_35 ?_
    refine g_iload_n hX 3 rfl dX6_scan_37 rfl ?_
    refine c_callI_V hX [.int x] 5 (by omega) (cK_p hi_2) (by decide) rfl (k_X1_findNote I r.toNatClampNeg hi_2 x) gX6_scan_X1_findNote rfl rfl rfl hd_X1_findNote ⟨Nat.le_of_ble_eq_true rfl, Nat.le_of_ble_eq_true rfl⟩ ⟨Nat.le_of_ble_eq_true rfl, Nat.le_of_ble_eq_true rfl⟩ rfl (Nat.le_of_ble_eq_true rfl) dX6_scan_38 (fun r_38 J_38 h_38 => ?_)
    obtain ⟨rfl, rfl⟩ := h_38
    refine g_istore hX [(5, .int (fnote I r.toNatClampNeg x)), (4, .ref (ad (4 + r.toNatClampNeg))), (0, .ref (ad 0)), (1, .int r), (2, .int x), (3, .int w)] rfl dX6_scan_41 (by decide) ?_
    refine g_iload hX 0 rfl dX6_scan_43 ?_
    refine g_iconst hX (-1) dX6_scan_45 rfl ?_
    refine g_icmp_ne (tgt := 59) hX dX6_scan_46 (by decide) (fun c_46 => ?_) (fun c_46 => ?_)
    · obtain ⟨sa, sb, hsa, hsb, hse⟩ := fnote_form c_46
      refine g_iload hX 0 rfl dX6_scan_59 ?_
      refine g_bipush hX (16) dX6_scan_61 rfl ?_
      refine g_idiv hX dX6_scan_63 (by decide) ?_
      refine g_eqi (y := nI sa) (by rw [hse]; exact d16 hsa hsb) ?_
      refine g_istore hX [(6, .int (nI sa)), (5, .int (fnote I r.toNatClampNeg x)), (4, .ref (ad (4 + r.toNatClampNeg))), (0, .ref (ad 0)), (1, .int r), (2, .int x), (3, .int w)] rfl dX6_scan_64 (by decide) ?_
      refine g_iload hX 1 rfl dX6_scan_66 ?_
      refine g_bipush hX (16) dX6_scan_68 rfl ?_
      refine g_irem hX dX6_scan_70 (by decide) ?_
      refine g_eqi (y := nI sb) (by rw [hse]; exact r16 hsa hsb) ?_
      refine g_istore hX [(7, .int (nI sb)), (6, .int (nI sa)), (5, .int (fnote I r.toNatClampNeg x)), (4, .ref (ad (4 + r.toNatClampNeg))), (0, .ref (ad 0)), (1, .int r), (2, .int x), (3, .int w)] rfl dX6_scan_71 (by decide) ?_
      refine g_iload_n hX 7 rfl dX6_scan_73 rfl ?_
      refine g_bipush hX (102) dX6_scan_74 rfl ?_
      refine g_icmp_ne (tgt := 82) hX dX6_scan_76 (by decide) (fun c_76 => ?_) (fun c_76 => ?_)
      · refine g_iload_n hX 7 rfl dX6_scan_82 rfl ?_
        refine g_bipush hX (112) dX6_scan_83 rfl ?_
        refine g_icmp_ne (tgt := 93) hX dX6_scan_85 (by decide) (fun c_85 => ?_) (fun c_85 => ?_)
        · refine g_aload hX 3 rfl dX6_scan_93 ?_
          refine g_iload hX 1 rfl dX6_scan_95 ?_
          refine g_iload hX 0 rfl dX6_scan_97 ?_
          refine c_callI_V hX [.int (nI sa), .int (nI sb)] 5 (by omega) (cK_p hi_2) (by decide) rfl (k_X1_measureNote I r.toNatClampNeg hi_2 sa hsa (nI sb)) gX6_scan_X1_measureNote rfl rfl rfl hd_X1_measureNote ⟨Nat.le_of_ble_eq_true rfl, Nat.le_of_ble_eq_true rfl⟩ ⟨Nat.le_of_ble_eq_true rfl, Nat.le_of_ble_eq_true rfl⟩ rfl (Nat.le_of_ble_eq_true rfl) dX6_scan_99 (fun r_99 J_99 h_99 => ?_)
          obtain ⟨rfl, rfl⟩ := h_99
          refine t_iret hX hE dX6_scan_102 (Nat.le_of_ble_eq_true rfl) (Nat.le_of_ble_eq_true rfl) ?_
          have hw3 : w = 102 ∨ w = 108 ∨ w = 112 := Or.inl c_10
          exact ⟨_, rfl, by simp only [ksc, rp_2, i10, hw3, c_46, if_true, if_false], rfl, by rw [scv, if_neg c_76, if_neg c_85, hse, r16 hsa hsb, d16 hsa hsb, nI_clamp (by omega)]⟩
        · refine g_iload hX 0 rfl dX6_scan_88 ?_
          refine g_goto (tgt := 102) hX dX6_scan_90 (by decide) ?_
          refine t_iret hX hE dX6_scan_102 (Nat.le_of_ble_eq_true rfl) (Nat.le_of_ble_eq_true rfl) ?_
          have hw3 : w = 102 ∨ w = 108 ∨ w = 112 := Or.inl c_10
          exact ⟨_, rfl, by simp only [ksc, rp_2, i10, hw3, c_46, if_true, if_false], rfl, by rw [scv, if_neg c_76, if_pos c_85, hse, r16 hsa hsb]⟩
      · refine g_iload hX 1 rfl dX6_scan_79 ?_
        refine t_iret hX hE dX6_scan_81 (Nat.le_of_ble_eq_true rfl) (Nat.le_of_ble_eq_true rfl) ?_
        have hw3 : w = 102 ∨ w = 108 ∨ w = 112 := Or.inl c_10
        exact ⟨_, rfl, by simp only [ksc, rp_2, i10, hw3, c_46, if_true, if_false], rfl, by rw [scv, if_pos c_76, hse, d16 hsa hsb]⟩
    · refine t_throwN hX hQ (text := "no such note") q_w3 q_w4 (by decide) q_hat104 hat_104 hgd_104 dX6_scan_49 dX6_scan_52 dX6_scan_53 dX6_scan_55 dX6_scan_58 (Nat.le_of_ble_eq_true rfl) (Nat.le_of_ble_eq_true rfl) (Nat.le_of_ble_eq_true rfl) (Nat.le_of_ble_eq_true rfl) (Nat.le_of_ble_eq_true rfl) (Nat.le_of_ble_eq_true rfl) ?_
      refine ⟨rfl, ?_⟩
      have hw3 : w = 102 ∨ w = 108 ∨ w = 112 := Or.inl c_10
      exact Or.inr (Or.inr ⟨rfl, by simp only [ksc, rp_2, i10, hw3, c_46, if_true, if_false]⟩)
  · refine g_iload_n hX 4 rfl dX6_scan_13 rfl ?_
    refine g_bipush hX (108) dX6_scan_14 rfl ?_
    refine g_icmp_eq (tgt := 35) hX dX6_scan_16 (by decide) (fun c_16 => ?_) (fun c_16 => ?_)
    · refine g_aload hX 0 rfl dX6_scan_35 ?_
      refine g_iload_n hX 3 rfl dX6_scan_37 rfl ?_
      refine c_callI_V hX [.int x] 5 (by omega) (cK_p hi_2) (by decide) rfl (k_X1_findNote I r.toNatClampNeg hi_2 x) gX6_scan_X1_findNote rfl rfl rfl hd_X1_findNote ⟨Nat.le_of_ble_eq_true rfl, Nat.le_of_ble_eq_true rfl⟩ ⟨Nat.le_of_ble_eq_true rfl, Nat.le_of_ble_eq_true rfl⟩ rfl (Nat.le_of_ble_eq_true rfl) dX6_scan_38 (fun r_38 J_38 h_38 => ?_)
      obtain ⟨rfl, rfl⟩ := h_38
      refine g_istore hX [(5, .int (fnote I r.toNatClampNeg x)), (4, .ref (ad (4 + r.toNatClampNeg))), (0, .ref (ad 0)), (1, .int r), (2, .int x), (3, .int w)] rfl dX6_scan_41 (by decide) ?_
      refine g_iload hX 0 rfl dX6_scan_43 ?_
      refine g_iconst hX (-1) dX6_scan_45 rfl ?_
      refine g_icmp_ne (tgt := 59) hX dX6_scan_46 (by decide) (fun c_46 => ?_) (fun c_46 => ?_)
      · obtain ⟨sa, sb, hsa, hsb, hse⟩ := fnote_form c_46
        refine g_iload hX 0 rfl dX6_scan_59 ?_
        refine g_bipush hX (16) dX6_scan_61 rfl ?_
        refine g_idiv hX dX6_scan_63 (by decide) ?_
        refine g_eqi (y := nI sa) (by rw [hse]; exact d16 hsa hsb) ?_
        refine g_istore hX [(6, .int (nI sa)), (5, .int (fnote I r.toNatClampNeg x)), (4, .ref (ad (4 + r.toNatClampNeg))), (0, .ref (ad 0)), (1, .int r), (2, .int x), (3, .int w)] rfl dX6_scan_64 (by decide) ?_
        refine g_iload hX 1 rfl dX6_scan_66 ?_
        refine g_bipush hX (16) dX6_scan_68 rfl ?_
        refine g_irem hX dX6_scan_70 (by decide) ?_
        refine g_eqi (y := nI sb) (by rw [hse]; exact r16 hsa hsb) ?_
        refine g_istore hX [(7, .int (nI sb)), (6, .int (nI sa)), (5, .int (fnote I r.toNatClampNeg x)), (4, .ref (ad (4 + r.toNatClampNeg))), (0, .ref (ad 0)), (1, .int r), (2, .int x), (3, .int w)] rfl dX6_scan_71 (by decide) ?_
        refine g_iload_n hX 7 rfl dX6_scan_73 rfl ?_
        refine g_bipush hX (102) dX6_scan_74 rfl ?_
        refine g_icmp_ne (tgt := 82) hX dX6_scan_76 (by decide) (fun c_76 => ?_) (fun c_76 => ?_)
        · refine g_iload_n hX 7 rfl dX6_scan_82 rfl ?_
          refine g_bipush hX (112) dX6_scan_83 rfl ?_
          refine g_icmp_ne (tgt := 93) hX dX6_scan_85 (by decide) (fun c_85 => ?_) (fun c_85 => ?_)
          · refine g_aload hX 3 rfl dX6_scan_93 ?_
            refine g_iload hX 1 rfl dX6_scan_95 ?_
            refine g_iload hX 0 rfl dX6_scan_97 ?_
            refine c_callI_V hX [.int (nI sa), .int (nI sb)] 5 (by omega) (cK_p hi_2) (by decide) rfl (k_X1_measureNote I r.toNatClampNeg hi_2 sa hsa (nI sb)) gX6_scan_X1_measureNote rfl rfl rfl hd_X1_measureNote ⟨Nat.le_of_ble_eq_true rfl, Nat.le_of_ble_eq_true rfl⟩ ⟨Nat.le_of_ble_eq_true rfl, Nat.le_of_ble_eq_true rfl⟩ rfl (Nat.le_of_ble_eq_true rfl) dX6_scan_99 (fun r_99 J_99 h_99 => ?_)
            obtain ⟨rfl, rfl⟩ := h_99
            refine t_iret hX hE dX6_scan_102 (Nat.le_of_ble_eq_true rfl) (Nat.le_of_ble_eq_true rfl) ?_
            have hw3 : w = 102 ∨ w = 108 ∨ w = 112 := Or.inr (Or.inl c_16)
            exact ⟨_, rfl, by simp only [ksc, rp_2, i10, hw3, c_46, if_true, if_false], rfl, by rw [scv, if_neg c_76, if_neg c_85, hse, r16 hsa hsb, d16 hsa hsb, nI_clamp (by omega)]⟩
          · refine g_iload hX 0 rfl dX6_scan_88 ?_
            refine g_goto (tgt := 102) hX dX6_scan_90 (by decide) ?_
            refine t_iret hX hE dX6_scan_102 (Nat.le_of_ble_eq_true rfl) (Nat.le_of_ble_eq_true rfl) ?_
            have hw3 : w = 102 ∨ w = 108 ∨ w = 112 := Or.inr (Or.inl c_16)
            exact ⟨_, rfl, by simp only [ksc, rp_2, i10, hw3, c_46, if_true, if_false], rfl, by rw [scv, if_neg c_76, if_pos c_85, hse, r16 hsa hsb]⟩
        · refine g_iload hX 1 rfl dX6_scan_79 ?_
          refine t_iret hX hE dX6_scan_81 (Nat.le_of_ble_eq_true rfl) (Nat.le_of_ble_eq_true rfl) ?_
          have hw3 : w = 102 ∨ w = 108 ∨ w = 112 := Or.inr (Or.inl c_16)
          exact ⟨_, rfl, by simp only [ksc, rp_2, i10, hw3, c_46, if_true, if_false], rfl, by rw [scv, if_pos c_76, hse, d16 hsa hsb]⟩
      · refine t_throwN hX hQ (text := "no such note") q_w3 q_w4 (by decide) q_hat104 hat_104 hgd_104 dX6_scan_49 dX6_scan_52 dX6_scan_53 dX6_scan_55 dX6_scan_58 (Nat.le_of_ble_eq_true rfl) (Nat.le_of_ble_eq_true rfl) (Nat.le_of_ble_eq_true rfl) (Nat.le_of_ble_eq_true rfl) (Nat.le_of_ble_eq_true rfl) (Nat.le_of_ble_eq_true rfl) ?_
        refine ⟨rfl, ?_⟩
        have hw3 : w = 102 ∨ w = 108 ∨ w = 112 := Or.inr (Or.inl c_16)
        exact Or.inr (Or.inr ⟨rfl, by simp only [ksc, rp_2, i10, hw3, c_46, if_true, if_false]⟩)
    · refine g_iload_n hX 4 rfl dX6_scan_19 rfl ?_
      refine g_bipush hX (112) dX6_scan_20 rfl ?_
      refine g_icmp_eq (tgt := 35) hX dX6_scan_22 (by decide) (fun c_22 => ?_) (fun c_22 => ?_)
      · refine g_aload hX 0 rfl dX6_scan_35 ?_
        refine g_iload_n hX 3 rfl dX6_scan_37 rfl ?_
        refine c_callI_V hX [.int x] 5 (by omega) (cK_p hi_2) (by decide) rfl (k_X1_findNote I r.toNatClampNeg hi_2 x) gX6_scan_X1_findNote rfl rfl rfl hd_X1_findNote ⟨Nat.le_of_ble_eq_true rfl, Nat.le_of_ble_eq_true rfl⟩ ⟨Nat.le_of_ble_eq_true rfl, Nat.le_of_ble_eq_true rfl⟩ rfl (Nat.le_of_ble_eq_true rfl) dX6_scan_38 (fun r_38 J_38 h_38 => ?_)
        obtain ⟨rfl, rfl⟩ := h_38
        refine g_istore hX [(5, .int (fnote I r.toNatClampNeg x)), (4, .ref (ad (4 + r.toNatClampNeg))), (0, .ref (ad 0)), (1, .int r), (2, .int x), (3, .int w)] rfl dX6_scan_41 (by decide) ?_
        refine g_iload hX 0 rfl dX6_scan_43 ?_
        refine g_iconst hX (-1) dX6_scan_45 rfl ?_
        refine g_icmp_ne (tgt := 59) hX dX6_scan_46 (by decide) (fun c_46 => ?_) (fun c_46 => ?_)
        · obtain ⟨sa, sb, hsa, hsb, hse⟩ := fnote_form c_46
          refine g_iload hX 0 rfl dX6_scan_59 ?_
          refine g_bipush hX (16) dX6_scan_61 rfl ?_
          refine g_idiv hX dX6_scan_63 (by decide) ?_
          refine g_eqi (y := nI sa) (by rw [hse]; exact d16 hsa hsb) ?_
          refine g_istore hX [(6, .int (nI sa)), (5, .int (fnote I r.toNatClampNeg x)), (4, .ref (ad (4 + r.toNatClampNeg))), (0, .ref (ad 0)), (1, .int r), (2, .int x), (3, .int w)] rfl dX6_scan_64 (by decide) ?_
          refine g_iload hX 1 rfl dX6_scan_66 ?_
          refine g_bipush hX (16) dX6_scan_68 rfl ?_
          refine g_irem hX dX6_scan_70 (by decide) ?_
          refine g_eqi (y := nI sb) (by rw [hse]; exact r16 hsa hsb) ?_
          refine g_istore hX [(7, .int (nI sb)), (6, .int (nI sa)), (5, .int (fnote I r.toNatClampNeg x)), (4, .ref (ad (4 + r.toNatClampNeg))), (0, .ref (ad 0)), (1, .int r), (2, .int x), (3, .int w)] rfl dX6_scan_71 (by decide) ?_
          refine g_iload_n hX 7 rfl dX6_scan_73 rfl ?_
          refine g_bipush hX (102) dX6_scan_74 rfl ?_
          refine g_icmp_ne (tgt := 82) hX dX6_scan_76 (by decide) (fun c_76 => ?_) (fun c_76 => ?_)
          · refine g_iload_n hX 7 rfl dX6_scan_82 rfl ?_
            refine g_bipush hX (112) dX6_scan_83 rfl ?_
            refine g_icmp_ne (tgt := 93) hX dX6_scan_85 (by decide) (fun c_85 => ?_) (fun c_85 => ?_)
            · refine g_aload hX 3 rfl dX6_scan_93 ?_
              refine g_iload hX 1 rfl dX6_scan_95 ?_
              refine g_iload hX 0 rfl dX6_scan_97 ?_
              refine c_callI_V hX [.int (nI sa), .int (nI sb)] 5 (by omega) (cK_p hi_2) (by decide) rfl (k_X1_measureNote I r.toNatClampNeg hi_2 sa hsa (nI sb)) gX6_scan_X1_measureNote rfl rfl rfl hd_X1_measureNote ⟨Nat.le_of_ble_eq_true rfl, Nat.le_of_ble_eq_true rfl⟩ ⟨Nat.le_of_ble_eq_true rfl, Nat.le_of_ble_eq_true rfl⟩ rfl (Nat.le_of_ble_eq_true rfl) dX6_scan_99 (fun r_99 J_99 h_99 => ?_)
              obtain ⟨rfl, rfl⟩ := h_99
              refine t_iret hX hE dX6_scan_102 (Nat.le_of_ble_eq_true rfl) (Nat.le_of_ble_eq_true rfl) ?_
              have hw3 : w = 102 ∨ w = 108 ∨ w = 112 := Or.inr (Or.inr c_22)
              exact ⟨_, rfl, by simp only [ksc, rp_2, i10, hw3, c_46, if_true, if_false], rfl, by rw [scv, if_neg c_76, if_neg c_85, hse, r16 hsa hsb, d16 hsa hsb, nI_clamp (by omega)]⟩
            · refine g_iload hX 0 rfl dX6_scan_88 ?_
              refine g_goto (tgt := 102) hX dX6_scan_90 (by decide) ?_
              refine t_iret hX hE dX6_scan_102 (Nat.le_of_ble_eq_true rfl) (Nat.le_of_ble_eq_true rfl) ?_
              have hw3 : w = 102 ∨ w = 108 ∨ w = 112 := Or.inr (Or.inr c_22)
              exact ⟨_, rfl, by simp only [ksc, rp_2, i10, hw3, c_46, if_true, if_false], rfl, by rw [scv, if_neg c_76, if_pos c_85, hse, r16 hsa hsb]⟩
          · refine g_iload hX 1 rfl dX6_scan_79 ?_
            refine t_iret hX hE dX6_scan_81 (Nat.le_of_ble_eq_true rfl) (Nat.le_of_ble_eq_true rfl) ?_
            have hw3 : w = 102 ∨ w = 108 ∨ w = 112 := Or.inr (Or.inr c_22)
            exact ⟨_, rfl, by simp only [ksc, rp_2, i10, hw3, c_46, if_true, if_false], rfl, by rw [scv, if_pos c_76, hse, d16 hsa hsb]⟩
        · refine t_throwN hX hQ (text := "no such note") q_w3 q_w4 (by decide) q_hat104 hat_104 hgd_104 dX6_scan_49 dX6_scan_52 dX6_scan_53 dX6_scan_55 dX6_scan_58 (Nat.le_of_ble_eq_true rfl) (Nat.le_of_ble_eq_true rfl) (Nat.le_of_ble_eq_true rfl) (Nat.le_of_ble_eq_true rfl) (Nat.le_of_ble_eq_true rfl) (Nat.le_of_ble_eq_true rfl) ?_
          refine ⟨rfl, ?_⟩
          have hw3 : w = 102 ∨ w = 108 ∨ w = 112 := Or.inr (Or.inr c_22)
          exact Or.inr (Or.inr ⟨rfl, by simp only [ksc, rp_2, i10, hw3, c_46, if_true, if_false]⟩)
      · refine t_throwS hX hQ (text := "a note has no such thing") "java/lang/IllegalArgumentException" rfl (by decide +kernel) q_w1 q_w2 (by decide) q_hat146 hat_146 hgd_146 dX6_scan_25 dX6_scan_28 dX6_scan_29 dX6_scan_31 dX6_scan_34 (Nat.le_of_ble_eq_true rfl) (Nat.le_of_ble_eq_true rfl) (Nat.le_of_ble_eq_true rfl) (Nat.le_of_ble_eq_true rfl) (Nat.le_of_ble_eq_true rfl) (Nat.le_of_ble_eq_true rfl) ?_
        refine ⟨rfl, ?_⟩
        simp [ksc, rp_2, c_10, c_16, c_22]
abbrev rm_X6_valve : Room := { frames := 7, cells := 3, slots := 18, locals := 104 }
theorem hd_X6_valve : yX6_valve.cls = RX6 ∧ yX6_valve.cls ≠ "java/lang/invoke/MethodHandle" ∧ yX6_valve.cls ≠ "java/lang/invoke/VarHandle" ∧ (parseMethodDescriptor yX6_valve.desc).map (fun d => d.parameters.length) = some 3 := by decide +kernel
set_option maxRecDepth 100000 in
set_option maxHeartbeats 4000000 in
theorem k_X6_valve {D : va_G} {dT : Nat → ClassId} {ad : Nat → Nat} (I : Nat → Nat → Int32) (n d q : Int32) : KTI yX6_valve wsX6_valve rm_X6_valve D dT ad I [.ref (ad 0), .int n, .int d, .int q] 3 18 (fun q9 J => kva n d q = 0 ∧ up2 (up2 I (24 + n.toNatClampNeg) 0 d) (24 + n.toNatClampNeg) 1 q = J ∧ I (24 + n.toNatClampNeg) 0 = q9) (fun E => (E = xIO ∧ (kva n d q) = 1) ∨ (E = xIA ∧ (kva n d q) = 2)) := by
  intro l9 hl9
  refine ti_of hl9 (own := RX6) (cc := cX6_valve) (maxL := 6) (some .int) [(0, .ref (ad 0)), (1, .int n), (2, .int d), (3, .int q)] (by decide) rfl rfl rfl (Nat.le_of_ble_eq_true rfl) ?_
  intro X hX hE hN
  have hQ := FI.x hE
  have q_w1 : Cond.fieldLink RX6 164 "Perforatum$Valve" "delay" "I" ∈ wsX6_valve := List.mem_of_getElem? (i := 1) rfl
  have q_inX5 : ∀ w ∈ wsX50, w ∈ wsX6_valve := by decide +kernel
  have q_w2 : Cond.fieldLink RX6 169 "Perforatum$Valve" "rest" "I" ∈ wsX6_valve := List.mem_of_getElem? (i := 2) rfl
  refine g_aload_n hX 0 rfl dX6_valve_0 rfl ?_
  refine g_iload_n hX 1 rfl dX6_valve_1 rfl ?_
  refine ct_callQ_V hX hQ [.int n] 10 (by decide) rfl (by decide) rfl (k_X6_demandValve I n) gX6_valve_X6_demandValve rfl rfl rfl hd_X6_demandValve ⟨Nat.le_of_ble_eq_true rfl, Nat.le_of_ble_eq_true rfl⟩ ⟨Nat.le_of_ble_eq_true rfl, Nat.le_of_ble_eq_true rfl⟩ (Nat.le_of_ble_eq_true rfl) (Nat.le_of_ble_eq_true rfl) (fun E h9 => by obtain ⟨rfl, h9⟩ := h9; exact ⟨rfl, by simp [kva, h9]⟩) rfl (Nat.le_of_ble_eq_true rfl) dX6_valve_2 (fun r_2 J_2 h_2 => ?_)
  obtain ⟨rfl, rfl, hi_2, vk_2⟩ := h_2
  refine g_stk (st2 := .ref (ad (24 + n.toNatClampNeg)) :: []) rfl ?_
  refine g_astore hX [(4, .ref (ad (24 + n.toNatClampNeg))), (0, .ref (ad 0)), (1, .int n), (2, .int d), (3, .int q)] rfl dX6_valve_5 (by decide) ?_
  refine g_iload_n hX 3 rfl dX6_valve_7 rfl ?_
  refine g_iconst hX (0) dX6_valve_8 rfl ?_
  refine g_iconst hX (5) dX6_valve_9 rfl ?_
  refine ct_callV_S hX hQ [.int d, .int 0, .int 5] (k_X6_demandWithin I d 0 5) gX6_valve_X6_demandWithin rfl rfl rfl hd_X6_demandWithin.2 ⟨Nat.le_of_ble_eq_true rfl, Nat.le_of_ble_eq_true rfl⟩ ⟨Nat.le_of_ble_eq_true rfl, Nat.le_of_ble_eq_true rfl⟩ (Nat.le_of_ble_eq_true rfl) (Nat.le_of_ble_eq_true rfl) (fun E h9 => by obtain ⟨rfl, h9⟩ := h9; exact ⟨rfl, by simp [kva, h9, vk_2]⟩) rfl (Nat.le_of_ble_eq_true rfl) dX6_valve_10 (fun J_10 h_10 => ?_)
  obtain ⟨rfl, w_10⟩ := h_10
  refine g_iload_n hX 4 rfl dX6_valve_13 rfl ?_
  refine g_iconst hX (0) dX6_valve_14 rfl ?_
  refine g_bipush hX (9) dX6_valve_15 rfl ?_
  refine ct_callV_S hX hQ [.int q, .int 0, .int 9] (k_X6_demandWithin I q 0 9) gX6_valve_X6_demandWithin rfl rfl rfl hd_X6_demandWithin.2 ⟨Nat.le_of_ble_eq_true rfl, Nat.le_of_ble_eq_true rfl⟩ ⟨Nat.le_of_ble_eq_true rfl, Nat.le_of_ble_eq_true rfl⟩ (Nat.le_of_ble_eq_true rfl) (Nat.le_of_ble_eq_true rfl) (fun E h9 => by obtain ⟨rfl, h9⟩ := h9; exact ⟨rfl, by simp [kva, h9, vk_2, w_10]⟩) rfl (Nat.le_of_ble_eq_true rfl) dX6_valve_17 (fun J_17 h_17 => ?_)
  obtain ⟨rfl, w_17⟩ := h_17
  refine g_aload hX 0 rfl dX6_valve_20 ?_
  refine cg_X5_delay hX (by omega) (cK_v hi_2) q_inX5 q_w1 dX6_valve_22 ?_
  refine g_istore hX [(5, .int (I (24 + n.toNatClampNeg) 0)), (4, .ref (ad (24 + n.toNatClampNeg))), (0, .ref (ad 0)), (1, .int n), (2, .int d), (3, .int q)] rfl dX6_valve_25 (by decide) ?_
  refine g_aload hX 1 rfl dX6_valve_27 ?_
  refine g_iload_n hX 4 rfl dX6_valve_29 rfl ?_
  refine cp_X5_delay hX (by omega) (cK_v hi_2) q_inX5 q_w1 dX6_valve_30 ?_
  refine g_aload hX 1 rfl dX6_valve_33 ?_
  refine g_iload_n hX 5 rfl dX6_valve_35 rfl ?_
  refine cp_X5_rest hX (by omega) (cK_v hi_2) q_inX5 q_w2 dX6_valve_36 ?_
  refine g_iload hX 0 rfl dX6_valve_39 ?_
  refine t_iret hX hE dX6_valve_41 (Nat.le_of_ble_eq_true rfl) (Nat.le_of_ble_eq_true rfl) ?_
  exact ⟨_, rfl, by simp [kva, vk_2, w_10, w_17], rfl, rfl⟩
abbrev rm_X6_use : Room := { frames := 7, cells := 2, slots := 12, locals := 104 }
theorem hd_X6_use : yX6_use.cls = RX6 ∧ yX6_use.cls ≠ "java/lang/invoke/MethodHandle" ∧ yX6_use.cls ≠ "java/lang/invoke/VarHandle" ∧ (parseMethodDescriptor yX6_use.desc).map (fun d => d.parameters.length) = some 2 := by decide +kernel
set_option maxRecDepth 100000 in
set_option maxHeartbeats 4000000 in
theorem k_X6_use {D : va_G} {dT : Nat → ClassId} {ad : Nat → Nat} (I : Nat → Nat → Int32) (n u : Int32) : KTI yX6_use wsX6_use rm_X6_use D dT ad I [.ref (ad 0), .int n, .int u] 2 12 (fun q9 J => kus n u = 0 ∧ up2 I (24 + n.toNatClampNeg) 2 u = J ∧ I (24 + n.toNatClampNeg) 2 = q9) (fun E => (E = xIO ∧ (kus n u) = 1) ∨ (E = xIA ∧ (kus n u) = 2)) := by
  intro l9 hl9
  refine ti_of hl9 (own := RX6) (cc := cX6_use) (maxL := 5) (some .int) [(0, .ref (ad 0)), (1, .int n), (2, .int u)] (by decide) rfl rfl rfl (Nat.le_of_ble_eq_true rfl) ?_
  intro X hX hE hN
  have hQ := FI.x hE
  have q_w1 : Cond.fieldLink RX6 172 "Perforatum$Valve" "use" "I" ∈ wsX6_use := List.mem_of_getElem? (i := 1) rfl
  have q_inX5 : ∀ w ∈ wsX50, w ∈ wsX6_use := by decide +kernel
  refine g_aload_n hX 0 rfl dX6_use_0 rfl ?_
  refine g_iload_n hX 1 rfl dX6_use_1 rfl ?_
  refine ct_callQ_V hX hQ [.int n] 10 (by decide) rfl (by decide) rfl (k_X6_demandValve I n) gX6_use_X6_demandValve rfl rfl rfl hd_X6_demandValve ⟨Nat.le_of_ble_eq_true rfl, Nat.le_of_ble_eq_true rfl⟩ ⟨Nat.le_of_ble_eq_true rfl, Nat.le_of_ble_eq_true rfl⟩ (Nat.le_of_ble_eq_true rfl) (Nat.le_of_ble_eq_true rfl) (fun E h9 => by obtain ⟨rfl, h9⟩ := h9; exact ⟨rfl, by simp [kus, h9]⟩) rfl (Nat.le_of_ble_eq_true rfl) dX6_use_2 (fun r_2 J_2 h_2 => ?_)
  obtain ⟨rfl, rfl, hi_2, vk_2⟩ := h_2
  refine g_stk (st2 := .ref (ad (24 + n.toNatClampNeg)) :: []) rfl ?_
  refine g_astore_n hX [(3, .ref (ad (24 + n.toNatClampNeg))), (0, .ref (ad 0)), (1, .int n), (2, .int u)] rfl dX6_use_5 rfl (by decide) ?_
  refine g_iload_n hX 3 rfl dX6_use_6 rfl ?_
  refine g_iconst hX (0) dX6_use_7 rfl ?_
  refine g_bipush hX (99) dX6_use_8 rfl ?_
  refine ct_callV_S hX hQ [.int u, .int 0, .int 99] (k_X6_demandWithin I u 0 99) gX6_use_X6_demandWithin rfl rfl rfl hd_X6_demandWithin.2 ⟨Nat.le_of_ble_eq_true rfl, Nat.le_of_ble_eq_true rfl⟩ ⟨Nat.le_of_ble_eq_true rfl, Nat.le_of_ble_eq_true rfl⟩ (Nat.le_of_ble_eq_true rfl) (Nat.le_of_ble_eq_true rfl) (fun E h9 => by obtain ⟨rfl, h9⟩ := h9; exact ⟨rfl, by simp [kus, h9, vk_2]⟩) rfl (Nat.le_of_ble_eq_true rfl) dX6_use_10 (fun J_10 h_10 => ?_)
  obtain ⟨rfl, w_10⟩ := h_10
  refine g_aload_n hX 0 rfl dX6_use_13 rfl ?_
  refine cg_X5_use hX (by omega) (cK_v hi_2) q_inX5 q_w1 dX6_use_14 ?_
  refine g_istore hX [(4, .int (I (24 + n.toNatClampNeg) 2)), (3, .ref (ad (24 + n.toNatClampNeg))), (0, .ref (ad 0)), (1, .int n), (2, .int u)] rfl dX6_use_17 (by decide) ?_
  refine g_aload_n hX 1 rfl dX6_use_19 rfl ?_
  refine g_iload_n hX 4 rfl dX6_use_20 rfl ?_
  refine cp_X5_use hX (by omega) (cK_v hi_2) q_inX5 q_w1 dX6_use_21 ?_
  refine g_iload hX 0 rfl dX6_use_24 ?_
  refine t_iret hX hE dX6_use_26 (Nat.le_of_ble_eq_true rfl) (Nat.le_of_ble_eq_true rfl) ?_
  exact ⟨_, rfl, by simp [kus, vk_2, w_10], rfl, rfl⟩

