/-! the law's wrappers -/
theorem khs_n {I : Nat → Nat → Int32} (h : khs I = 0) : ¬ I 3 8 = 0 := fun e => by unfold khs at h; rw [if_pos e] at h; cases h
/-- what a wrapper says: cd is 0 where the method returns (R: what it answers and leaves), else the handler's number -/
def WPJ (dT : Nat → ClassId) (ad : Nat → Nat) (o : Nat) (cd : Nat) (I : Nat → Nat → Int32) (R : Int64 → (Nat → Nat → Int32) → Prop) : Int32 → va_W → Prop := fun r w => ∃ J g, w = WJ dT ad J o g ∧ r = nI cd ∧ (cd = 0 → R (g 0) J) ∧ (cd ≠ 0 → J = I)
def WPD (dT : Nat → ClassId) (ad : Nat → Nat) (o : Nat) (cd : Nat) (I : Nat → Nat → Int32) (R : UInt64 → (Nat → Nat → Int32) → Prop) : Int32 → va_W → Prop := fun r w => ∃ J g, w = WD dT ad J o g ∧ r = nI cd ∧ (cd = 0 → R (g 0) J) ∧ (cd ≠ 0 → J = I)

abbrev rm_L_roll : Room := { frames := 8, cells := 1, slots := 6, locals := 122 }
theorem hd_L_roll : yL_roll.cls ≠ "java/lang/invoke/MethodHandle" ∧ yL_roll.cls ≠ "java/lang/invoke/VarHandle" ∧ (parseMethodDescriptor yL_roll.desc).map (fun d => d.parameters.length) = some 2 := by decide +kernel
set_option maxRecDepth 100000 in
set_option maxHeartbeats 4000000 in
theorem k_L_roll {D : va_G} {dT : Nat → ClassId} {ad : Nat → Nat} {o : Nat} {g : Nat → Int64} (I : Nat → Nat → Int32) : ∀ l8 : Launch, l8.stackTraces = false → WI l8 yL_roll wsL_roll rm_L_roll D dT (WJ dT ad I o g) [.ref (ad 0), .ref o] 1 6 (WPJ dT ad o (krl I) I (fun x J => ∃ v, (fun q9 J => krl I = 0 ∧ up2 I 0 6 (I 0 6 + 1) = J ∧ I 0 6 + 1 - 1 = q9) v J ∧ cvI v = x)) := by
  intro l9 hl9
  refine wi_of hl9 (own := RL) (cc := cL_roll) (maxL := 3) (hh := [(0, 8, 11, 13)]) [(0, .ref (ad 0)), (1, .ref o)] (by decide) rfl rfl rfl (Nat.le_of_ble_eq_true rfl) ?_
  intro X hX hE
  have q_c13 : Cond.classLink RL 13 "java/lang/IllegalStateException" ∈ wsL_roll := by decide +kernel
  unfold WJ
  refine g_aload_n hX 1 rfl dL_roll_0 rfl ?_
  refine g_iconst hX 0 dL_roll_1 rfl ?_
  refine g_aload_n hX 0 rfl dL_roll_2 rfl ?_
  refine w_callI hX hE (w1 := []) (w2 := [(o, eJ dT g)]) [] (k_X6_roll I) gL_roll_X6_roll rfl rfl rfl hd_X6_roll ⟨(Nat.le_of_ble_eq_true rfl), (Nat.le_of_ble_eq_true rfl)⟩ ⟨(Nat.le_of_ble_eq_true rfl), (Nat.le_of_ble_eq_true rfl)⟩ rfl (Nat.le_of_ble_eq_true rfl) dL_roll_3 (fun E hE9 => ?_) (fun q J hJ => ?_)
  · obtain ⟨rfl, hc⟩ := hE9
    refine ⟨[], [], ⟨0, 8, 11, 13⟩, rfl, fun z hz => (nomatch hz), by decide +kernel, by decide, by decide, q_c13, fun q9 => ?_⟩
    refine g_astore_n hX _ rfl dL_roll_11 rfl (Nat.le_of_ble_eq_true rfl) ?_
    refine g_iconst hX 1 dL_roll_12 rfl ?_
    exact w_iret hX hE dL_roll_13 (Nat.le_of_ble_eq_true rfl) (Nat.le_of_ble_eq_true rfl) ⟨I, g, rfl, by rw [hc]; rfl, fun h => absurd (hc.symm.trans h) (by decide), fun _ => rfl⟩
  · have h0 : krl I = 0 := hJ.1
    refine g_i2l hX dL_roll_6 ?_
    refine w_last hX (w1 := [] ++ pw ad cL (kf dT ad J)) (w2 := []) dL_roll_7 ?_
    refine g_goto (tgt := 14) hX dL_roll_8 (by decide) ?_
    refine g_iconst hX 0 dL_roll_14 rfl ?_
    exact w_iret hX hE dL_roll_15 (Nat.le_of_ble_eq_true rfl) (Nat.le_of_ble_eq_true rfl) ⟨J, vp_updL g 0 q.toInt64, rfl, by rw [h0]; rfl, fun _ => ⟨q, hJ, rfl⟩, fun h => absurd h0 h⟩
abbrev rm_L_punch : Room := { frames := 8, cells := 3, slots := 18, locals := 130 }
theorem hd_L_punch : yL_punch.cls ≠ "java/lang/invoke/MethodHandle" ∧ yL_punch.cls ≠ "java/lang/invoke/VarHandle" ∧ (parseMethodDescriptor yL_punch.desc).map (fun d => d.parameters.length) = some 6 := by decide +kernel
set_option maxRecDepth 100000 in
set_option maxHeartbeats 4000000 in
theorem k_L_punch {D : va_G} {dT : Nat → ClassId} {ad : Nat → Nat} {o : Nat} {g : Nat → Int64} (I : Nat → Nat → Int32) (r7 row7 t7 is7 : Int32) : ∀ l8 : Launch, l8.stackTraces = false → WI l8 yL_punch wsL_punch rm_L_punch D dT (WJ dT ad I o g) [.ref (ad 0), .int r7, .int row7, .int t7, .int is7, .ref o] 3 18 (WPJ dT ad o (kpu I r7 row7 t7) I (fun x J => ∃ v, (fun q9 J => kpu I r7 row7 t7 = 0 ∧ pnI I r7 row7 t7 is7 = J ∧ hh I r7.toNatClampNeg row7 t7 = q9) v J ∧ cvB v = x)) := by
  intro l9 hl9
  refine wi_of hl9 (own := RL) (cc := cL_punch) (maxL := 7) (hh := [(0, 21, 24, 19), (0, 21, 28, 21)]) [(0, .ref (ad 0)), (1, .int r7), (2, .int row7), (3, .int t7), (4, .int is7), (5, .ref o)] (by decide) rfl rfl rfl (Nat.le_of_ble_eq_true rfl) ?_
  intro X hX hE
  have q_c19 : Cond.classLink RL 19 "java/lang/IndexOutOfBoundsException" ∈ wsL_punch := by decide +kernel
  have q_c21 : Cond.classLink RL 21 "java/lang/IllegalArgumentException" ∈ wsL_punch := by decide +kernel
  unfold WJ
  refine g_aload hX 5 rfl dL_punch_0 ?_
  refine g_iconst hX 0 dL_punch_2 rfl ?_
  refine g_aload_n hX 0 rfl dL_punch_3 rfl ?_
  refine g_iload_n hX 1 rfl dL_punch_4 rfl ?_
  refine g_iload_n hX 2 rfl dL_punch_5 rfl ?_
  refine g_iload_n hX 3 rfl dL_punch_6 rfl ?_
  refine g_iload hX 4 rfl dL_punch_7 ?_
  refine w_callI hX hE (w1 := []) (w2 := [(o, eJ dT g)]) [.int r7, .int row7, .int t7, .int is7] (k_X6_punch I r7 row7 t7 is7) gL_punch_X6_punch rfl rfl rfl hd_X6_punch ⟨(Nat.le_of_ble_eq_true rfl), (Nat.le_of_ble_eq_true rfl)⟩ ⟨(Nat.le_of_ble_eq_true rfl), (Nat.le_of_ble_eq_true rfl)⟩ rfl (Nat.le_of_ble_eq_true rfl) dL_punch_9 (fun E hE9 => ?_) (fun q J hJ => ?_)
  · rcases hE9 with ⟨rfl, hc⟩ | ⟨rfl, hc⟩
    · refine ⟨[], [⟨0, 21, 28, 21⟩], ⟨0, 21, 24, 19⟩, rfl, fun z hz => (nomatch hz), by decide +kernel, by decide, by decide, q_c19, fun q9 => ?_⟩
      refine g_astore hX _ rfl dL_punch_24 (Nat.le_of_ble_eq_true rfl) ?_
      refine g_iconst hX 1 dL_punch_26 rfl ?_
      exact w_iret hX hE dL_punch_27 (Nat.le_of_ble_eq_true rfl) (Nat.le_of_ble_eq_true rfl) ⟨I, g, rfl, by rw [hc]; rfl, fun h => absurd (hc.symm.trans h) (by decide), fun _ => rfl⟩
    · refine ⟨[⟨0, 21, 24, 19⟩], [], ⟨0, 21, 28, 21⟩, rfl, fun z hz => ?_, by decide +kernel, by decide, by decide, q_c21, fun q9 => ?_⟩
      · simp only [List.mem_cons, List.not_mem_nil, or_false] at hz
        subst hz
        exact ⟨by decide, xIO, by decide +kernel, q_c19, by decide⟩
      · refine g_astore hX _ rfl dL_punch_28 (Nat.le_of_ble_eq_true rfl) ?_
        refine g_iconst hX 2 dL_punch_30 rfl ?_
        exact w_iret hX hE dL_punch_31 (Nat.le_of_ble_eq_true rfl) (Nat.le_of_ble_eq_true rfl) ⟨I, g, rfl, by rw [hc]; rfl, fun h => absurd (hc.symm.trans h) (by decide), fun _ => rfl⟩
  · have h0 : kpu I r7 row7 t7 = 0 := hJ.1
    refine g_if_eq (tgt := 19) hX dL_punch_12 (by decide) (fun c1 => ?_) (fun c1 => ?_)
    · refine g_lconst hX 0 dL_punch_19 rfl ?_
      refine w_last hX (w1 := [] ++ pw ad cL (kf dT ad J)) (w2 := []) dL_punch_20 ?_
      refine g_goto (tgt := 32) hX dL_punch_21 (by decide) ?_
      refine g_iconst hX 0 dL_punch_32 rfl ?_
      exact w_iret hX hE dL_punch_33 (Nat.le_of_ble_eq_true rfl) (Nat.le_of_ble_eq_true rfl) ⟨J, vp_updL g 0 0, rfl, by rw [h0]; rfl, fun _ => ⟨q, hJ, by rw [c1]; rfl⟩, fun h => absurd h0 h⟩
    · refine g_lconst hX 1 dL_punch_15 rfl ?_
      refine g_goto (tgt := 20) hX dL_punch_16 (by decide) ?_
      refine w_last hX (w1 := [] ++ pw ad cL (kf dT ad J)) (w2 := []) dL_punch_20 ?_
      refine g_goto (tgt := 32) hX dL_punch_21 (by decide) ?_
      refine g_iconst hX 0 dL_punch_32 rfl ?_
      exact w_iret hX hE dL_punch_33 (Nat.le_of_ble_eq_true rfl) (Nat.le_of_ble_eq_true rfl) ⟨J, vp_updL g 0 1, rfl, by rw [h0]; rfl, fun _ => ⟨q, hJ, if_neg c1⟩, fun h => absurd h0 h⟩
abbrev rm_L_hole : Room := { frames := 8, cells := 3, slots := 18, locals := 128 }
theorem hd_L_hole : yL_hole.cls ≠ "java/lang/invoke/MethodHandle" ∧ yL_hole.cls ≠ "java/lang/invoke/VarHandle" ∧ (parseMethodDescriptor yL_hole.desc).map (fun d => d.parameters.length) = some 5 := by decide +kernel
set_option maxRecDepth 100000 in
set_option maxHeartbeats 4000000 in
theorem k_L_hole {D : va_G} {dT : Nat → ClassId} {ad : Nat → Nat} {o : Nat} {g : Nat → Int64} (I : Nat → Nat → Int32) (r7 row7 t7 : Int32) : ∀ l8 : Launch, l8.stackTraces = false → WI l8 yL_hole wsL_hole rm_L_hole D dT (WJ dT ad I o g) [.ref (ad 0), .int r7, .int row7, .int t7, .ref o] 3 18 (WPJ dT ad o (kpu I r7 row7 t7) I (fun x J => ∃ v, (fun q9 J => kpu I r7 row7 t7 = 0 ∧ I = J ∧ hh I r7.toNatClampNeg row7 t7 = q9) v J ∧ cvB v = x)) := by
  intro l9 hl9
  refine wi_of hl9 (own := RL) (cc := cL_hole) (maxL := 6) (hh := [(0, 19, 22, 19), (0, 19, 26, 21)]) [(0, .ref (ad 0)), (1, .int r7), (2, .int row7), (3, .int t7), (4, .ref o)] (by decide) rfl rfl rfl (Nat.le_of_ble_eq_true rfl) ?_
  intro X hX hE
  have q_c19 : Cond.classLink RL 19 "java/lang/IndexOutOfBoundsException" ∈ wsL_hole := by decide +kernel
  have q_c21 : Cond.classLink RL 21 "java/lang/IllegalArgumentException" ∈ wsL_hole := by decide +kernel
  unfold WJ
  refine g_aload hX 4 rfl dL_hole_0 ?_
  refine g_iconst hX 0 dL_hole_2 rfl ?_
  refine g_aload_n hX 0 rfl dL_hole_3 rfl ?_
  refine g_iload_n hX 1 rfl dL_hole_4 rfl ?_
  refine g_iload_n hX 2 rfl dL_hole_5 rfl ?_
  refine g_iload_n hX 3 rfl dL_hole_6 rfl ?_
  refine w_callI hX hE (w1 := []) (w2 := [(o, eJ dT g)]) [.int r7, .int row7, .int t7] (k_X6_hole I r7 row7 t7) gL_hole_X6_hole rfl rfl rfl hd_X6_hole ⟨(Nat.le_of_ble_eq_true rfl), (Nat.le_of_ble_eq_true rfl)⟩ ⟨(Nat.le_of_ble_eq_true rfl), (Nat.le_of_ble_eq_true rfl)⟩ rfl (Nat.le_of_ble_eq_true rfl) dL_hole_7 (fun E hE9 => ?_) (fun q J hJ => ?_)
  · rcases hE9 with ⟨rfl, hc⟩ | ⟨rfl, hc⟩
    · refine ⟨[], [⟨0, 19, 26, 21⟩], ⟨0, 19, 22, 19⟩, rfl, fun z hz => (nomatch hz), by decide +kernel, by decide, by decide, q_c19, fun q9 => ?_⟩
      refine g_astore hX _ rfl dL_hole_22 (Nat.le_of_ble_eq_true rfl) ?_
      refine g_iconst hX 1 dL_hole_24 rfl ?_
      exact w_iret hX hE dL_hole_25 (Nat.le_of_ble_eq_true rfl) (Nat.le_of_ble_eq_true rfl) ⟨I, g, rfl, by rw [hc]; rfl, fun h => absurd (hc.symm.trans h) (by decide), fun _ => rfl⟩
    · refine ⟨[⟨0, 19, 22, 19⟩], [], ⟨0, 19, 26, 21⟩, rfl, fun z hz => ?_, by decide +kernel, by decide, by decide, q_c21, fun q9 => ?_⟩
      · simp only [List.mem_cons, List.not_mem_nil, or_false] at hz
        subst hz
        exact ⟨by decide, xIO, by decide +kernel, q_c19, by decide⟩
      · refine g_astore hX _ rfl dL_hole_26 (Nat.le_of_ble_eq_true rfl) ?_
        refine g_iconst hX 2 dL_hole_28 rfl ?_
        exact w_iret hX hE dL_hole_29 (Nat.le_of_ble_eq_true rfl) (Nat.le_of_ble_eq_true rfl) ⟨I, g, rfl, by rw [hc]; rfl, fun h => absurd (hc.symm.trans h) (by decide), fun _ => rfl⟩
  · have h0 : kpu I r7 row7 t7 = 0 := hJ.1
    refine g_if_eq (tgt := 17) hX dL_hole_10 (by decide) (fun c1 => ?_) (fun c1 => ?_)
    · refine g_lconst hX 0 dL_hole_17 rfl ?_
      refine w_last hX (w1 := [] ++ pw ad cL (kf dT ad J)) (w2 := []) dL_hole_18 ?_
      refine g_goto (tgt := 30) hX dL_hole_19 (by decide) ?_
      refine g_iconst hX 0 dL_hole_30 rfl ?_
      exact w_iret hX hE dL_hole_31 (Nat.le_of_ble_eq_true rfl) (Nat.le_of_ble_eq_true rfl) ⟨J, vp_updL g 0 0, rfl, by rw [h0]; rfl, fun _ => ⟨q, hJ, by rw [c1]; rfl⟩, fun h => absurd h0 h⟩
    · refine g_lconst hX 1 dL_hole_13 rfl ?_
      refine g_goto (tgt := 18) hX dL_hole_14 (by decide) ?_
      refine w_last hX (w1 := [] ++ pw ad cL (kf dT ad J)) (w2 := []) dL_hole_18 ?_
      refine g_goto (tgt := 30) hX dL_hole_19 (by decide) ?_
      refine g_iconst hX 0 dL_hole_30 rfl ?_
      exact w_iret hX hE dL_hole_31 (Nat.le_of_ble_eq_true rfl) (Nat.le_of_ble_eq_true rfl) ⟨J, vp_updL g 0 1, rfl, by rw [h0]; rfl, fun _ => ⟨q, hJ, if_neg c1⟩, fun h => absurd h0 h⟩
abbrev rm_L_length : Room := { frames := 8, cells := 1, slots := 6, locals := 124 }
theorem hd_L_length : yL_length.cls ≠ "java/lang/invoke/MethodHandle" ∧ yL_length.cls ≠ "java/lang/invoke/VarHandle" ∧ (parseMethodDescriptor yL_length.desc).map (fun d => d.parameters.length) = some 3 := by decide +kernel
set_option maxRecDepth 100000 in
set_option maxHeartbeats 4000000 in
theorem k_L_length {D : va_G} {dT : Nat → ClassId} {ad : Nat → Nat} {o : Nat} {g : Nat → Int64} (I : Nat → Nat → Int32) (r7 : Int32) : ∀ l8 : Launch, l8.stackTraces = false → WI l8 yL_length wsL_length rm_L_length D dT (WJ dT ad I o g) [.ref (ad 0), .int r7, .ref o] 1 6 (WPJ dT ad o (kr1 I r7) I (fun x J => ∃ v, (fun q9 J => kr1 I r7 = 0 ∧ I = J ∧ crw (I (8 + r7.toNatClampNeg)) 200 = q9) v J ∧ cvI v = x)) := by
  intro l9 hl9
  refine wi_of hl9 (own := RL) (cc := cL_length) (maxL := 4) (hh := [(0, 9, 12, 19)]) [(0, .ref (ad 0)), (1, .int r7), (2, .ref o)] (by decide) rfl rfl rfl (Nat.le_of_ble_eq_true rfl) ?_
  intro X hX hE
  have q_c19 : Cond.classLink RL 19 "java/lang/IndexOutOfBoundsException" ∈ wsL_length := by decide +kernel
  unfold WJ
  refine g_aload_n hX 2 rfl dL_length_0 rfl ?_
  refine g_iconst hX 0 dL_length_1 rfl ?_
  refine g_aload_n hX 0 rfl dL_length_2 rfl ?_
  refine g_iload_n hX 1 rfl dL_length_3 rfl ?_
  refine w_callI hX hE (w1 := []) (w2 := [(o, eJ dT g)]) [.int r7] (k_X6_length I r7) gL_length_X6_length rfl rfl rfl hd_X6_length ⟨(Nat.le_of_ble_eq_true rfl), (Nat.le_of_ble_eq_true rfl)⟩ ⟨(Nat.le_of_ble_eq_true rfl), (Nat.le_of_ble_eq_true rfl)⟩ rfl (Nat.le_of_ble_eq_true rfl) dL_length_4 (fun E hE9 => ?_) (fun q J hJ => ?_)
  · obtain ⟨rfl, hc⟩ := hE9
    refine ⟨[], [], ⟨0, 9, 12, 19⟩, rfl, fun z hz => (nomatch hz), by decide +kernel, by decide, by decide, q_c19, fun q9 => ?_⟩
    refine g_astore_n hX _ rfl dL_length_12 rfl (Nat.le_of_ble_eq_true rfl) ?_
    refine g_iconst hX 1 dL_length_13 rfl ?_
    exact w_iret hX hE dL_length_14 (Nat.le_of_ble_eq_true rfl) (Nat.le_of_ble_eq_true rfl) ⟨I, g, rfl, by rw [hc]; rfl, fun h => absurd (hc.symm.trans h) (by decide), fun _ => rfl⟩
  · have h0 : kr1 I r7 = 0 := hJ.1
    refine g_i2l hX dL_length_7 ?_
    refine w_last hX (w1 := [] ++ pw ad cL (kf dT ad J)) (w2 := []) dL_length_8 ?_
    refine g_goto (tgt := 15) hX dL_length_9 (by decide) ?_
    refine g_iconst hX 0 dL_length_15 rfl ?_
    exact w_iret hX hE dL_length_16 (Nat.le_of_ble_eq_true rfl) (Nat.le_of_ble_eq_true rfl) ⟨J, vp_updL g 0 q.toInt64, rfl, by rw [h0]; rfl, fun _ => ⟨q, hJ, rfl⟩, fun h => absurd h0 h⟩
abbrev rm_L_holes : Room := { frames := 8, cells := 2, slots := 12, locals := 127 }
theorem hd_L_holes : yL_holes.cls ≠ "java/lang/invoke/MethodHandle" ∧ yL_holes.cls ≠ "java/lang/invoke/VarHandle" ∧ (parseMethodDescriptor yL_holes.desc).map (fun d => d.parameters.length) = some 4 := by decide +kernel
set_option maxRecDepth 100000 in
set_option maxHeartbeats 4000000 in
theorem k_L_holes {D : va_G} {dT : Nat → ClassId} {ad : Nat → Nat} {o : Nat} {g : Nat → Int64} (I : Nat → Nat → Int32) (r7 t7 : Int32) : ∀ l8 : Launch, l8.stackTraces = false → WI l8 yL_holes wsL_holes rm_L_holes D dT (WJ dT ad I o g) [.ref (ad 0), .int r7, .int t7, .ref o] 2 12 (WPJ dT ad o (kho I r7 t7) I (fun x J => ∃ v, (fun q9 J => kho I r7 t7 = 0 ∧ I = J ∧ sumB (fun q => bcnt (I (8 + r7.toNatClampNeg) q &&& (1 <<< (t7 &&& 31)))) 200 = q9) v J ∧ cvI v = x)) := by
  intro l9 hl9
  refine wi_of hl9 (own := RL) (cc := cL_holes) (maxL := 5) (hh := [(0, 10, 13, 19), (0, 10, 17, 21)]) [(0, .ref (ad 0)), (1, .int r7), (2, .int t7), (3, .ref o)] (by decide) rfl rfl rfl (Nat.le_of_ble_eq_true rfl) ?_
  intro X hX hE
  have q_c19 : Cond.classLink RL 19 "java/lang/IndexOutOfBoundsException" ∈ wsL_holes := by decide +kernel
  have q_c21 : Cond.classLink RL 21 "java/lang/IllegalArgumentException" ∈ wsL_holes := by decide +kernel
  unfold WJ
  refine g_aload_n hX 3 rfl dL_holes_0 rfl ?_
  refine g_iconst hX 0 dL_holes_1 rfl ?_
  refine g_aload_n hX 0 rfl dL_holes_2 rfl ?_
  refine g_iload_n hX 1 rfl dL_holes_3 rfl ?_
  refine g_iload_n hX 2 rfl dL_holes_4 rfl ?_
  refine w_callI hX hE (w1 := []) (w2 := [(o, eJ dT g)]) [.int r7, .int t7] (k_X6_holes I r7 t7) gL_holes_X6_holes rfl rfl rfl hd_X6_holes ⟨(Nat.le_of_ble_eq_true rfl), (Nat.le_of_ble_eq_true rfl)⟩ ⟨(Nat.le_of_ble_eq_true rfl), (Nat.le_of_ble_eq_true rfl)⟩ rfl (Nat.le_of_ble_eq_true rfl) dL_holes_5 (fun E hE9 => ?_) (fun q J hJ => ?_)
  · rcases hE9 with ⟨rfl, hc⟩ | ⟨rfl, hc⟩
    · refine ⟨[], [⟨0, 10, 17, 21⟩], ⟨0, 10, 13, 19⟩, rfl, fun z hz => (nomatch hz), by decide +kernel, by decide, by decide, q_c19, fun q9 => ?_⟩
      refine g_astore hX _ rfl dL_holes_13 (Nat.le_of_ble_eq_true rfl) ?_
      refine g_iconst hX 1 dL_holes_15 rfl ?_
      exact w_iret hX hE dL_holes_16 (Nat.le_of_ble_eq_true rfl) (Nat.le_of_ble_eq_true rfl) ⟨I, g, rfl, by rw [hc]; rfl, fun h => absurd (hc.symm.trans h) (by decide), fun _ => rfl⟩
    · refine ⟨[⟨0, 10, 13, 19⟩], [], ⟨0, 10, 17, 21⟩, rfl, fun z hz => ?_, by decide +kernel, by decide, by decide, q_c21, fun q9 => ?_⟩
      · simp only [List.mem_cons, List.not_mem_nil, or_false] at hz
        subst hz
        exact ⟨by decide, xIO, by decide +kernel, q_c19, by decide⟩
      · refine g_astore hX _ rfl dL_holes_17 (Nat.le_of_ble_eq_true rfl) ?_
        refine g_iconst hX 2 dL_holes_19 rfl ?_
        exact w_iret hX hE dL_holes_20 (Nat.le_of_ble_eq_true rfl) (Nat.le_of_ble_eq_true rfl) ⟨I, g, rfl, by rw [hc]; rfl, fun h => absurd (hc.symm.trans h) (by decide), fun _ => rfl⟩
  · have h0 : kho I r7 t7 = 0 := hJ.1
    refine g_i2l hX dL_holes_8 ?_
    refine w_last hX (w1 := [] ++ pw ad cL (kf dT ad J)) (w2 := []) dL_holes_9 ?_
    refine g_goto (tgt := 21) hX dL_holes_10 (by decide) ?_
    refine g_iconst hX 0 dL_holes_21 rfl ?_
    exact w_iret hX hE dL_holes_22 (Nat.le_of_ble_eq_true rfl) (Nat.le_of_ble_eq_true rfl) ⟨J, vp_updL g 0 q.toInt64, rfl, by rw [h0]; rfl, fun _ => ⟨q, hJ, rfl⟩, fun h => absurd h0 h⟩
abbrev rm_L_copy : Room := { frames := 8, cells := 3, slots := 18, locals := 126 }
theorem hd_L_copy : yL_copy.cls ≠ "java/lang/invoke/MethodHandle" ∧ yL_copy.cls ≠ "java/lang/invoke/VarHandle" ∧ (parseMethodDescriptor yL_copy.desc).map (fun d => d.parameters.length) = some 3 := by decide +kernel
set_option maxRecDepth 100000 in
set_option maxHeartbeats 4000000 in
theorem k_L_copy {D : va_G} {dT : Nat → ClassId} {ad : Nat → Nat} {o : Nat} {g : Nat → Int64} (I : Nat → Nat → Int32) (np : Nat) (hnp : I 0 6 = nI np) (hn4 : np ≤ 4) (r7 : Int32) : ∀ l8 : Launch, l8.stackTraces = false → WI l8 yL_copy wsL_copy rm_L_copy D dT (WJ dT ad I o g) [.ref (ad 0), .int r7, .ref o] 3 18 (WPJ dT ad o (kcp I r7) I (fun x J => ∃ v, (fun q J => kcp I r7 = 0 ∧ upr (up2 I 0 6 (I 0 6 + 1)) (8 + np) (fun q => if q < 200 then (up2 I 0 6 (I 0 6 + 1)) (8 + r7.toNatClampNeg) q else (up2 I 0 6 (I 0 6 + 1)) (8 + np) q) = J ∧ nI np = q) v J ∧ cvI v = x)) := by
  intro l9 hl9
  refine wi_of hl9 (own := RL) (cc := cL_copy) (maxL := 4) (hh := [(0, 9, 12, 19), (0, 9, 15, 13)]) [(0, .ref (ad 0)), (1, .int r7), (2, .ref o)] (by decide) rfl rfl rfl (Nat.le_of_ble_eq_true rfl) ?_
  intro X hX hE
  have q_c19 : Cond.classLink RL 19 "java/lang/IndexOutOfBoundsException" ∈ wsL_copy := by decide +kernel
  have q_c13 : Cond.classLink RL 13 "java/lang/IllegalStateException" ∈ wsL_copy := by decide +kernel
  unfold WJ
  refine g_aload_n hX 2 rfl dL_copy_0 rfl ?_
  refine g_iconst hX 0 dL_copy_1 rfl ?_
  refine g_aload_n hX 0 rfl dL_copy_2 rfl ?_
  refine g_iload_n hX 1 rfl dL_copy_3 rfl ?_
  refine w_callI hX hE (w1 := []) (w2 := [(o, eJ dT g)]) [.int r7] (k_X6_copy I np hnp hn4 r7) gL_copy_X6_copy rfl rfl rfl hd_X6_copy ⟨(Nat.le_of_ble_eq_true rfl), (Nat.le_of_ble_eq_true rfl)⟩ ⟨(Nat.le_of_ble_eq_true rfl), (Nat.le_of_ble_eq_true rfl)⟩ rfl (Nat.le_of_ble_eq_true rfl) dL_copy_4 (fun E hE9 => ?_) (fun q J hJ => ?_)
  · rcases hE9 with ⟨rfl, hc⟩ | ⟨rfl, hc⟩
    · refine ⟨[], [⟨0, 9, 15, 13⟩], ⟨0, 9, 12, 19⟩, rfl, fun z hz => (nomatch hz), by decide +kernel, by decide, by decide, q_c19, fun q9 => ?_⟩
      refine g_astore_n hX _ rfl dL_copy_12 rfl (Nat.le_of_ble_eq_true rfl) ?_
      refine g_iconst hX 1 dL_copy_13 rfl ?_
      exact w_iret hX hE dL_copy_14 (Nat.le_of_ble_eq_true rfl) (Nat.le_of_ble_eq_true rfl) ⟨I, g, rfl, by rw [hc]; rfl, fun h => absurd (hc.symm.trans h) (by decide), fun _ => rfl⟩
    · refine ⟨[⟨0, 9, 12, 19⟩], [], ⟨0, 9, 15, 13⟩, rfl, fun z hz => ?_, by decide +kernel, by decide, by decide, q_c13, fun q9 => ?_⟩
      · simp only [List.mem_cons, List.not_mem_nil, or_false] at hz
        subst hz
        exact ⟨by decide, xIO, by decide +kernel, q_c19, by decide⟩
      · refine g_astore_n hX _ rfl dL_copy_15 rfl (Nat.le_of_ble_eq_true rfl) ?_
        refine g_iconst hX 2 dL_copy_16 rfl ?_
        exact w_iret hX hE dL_copy_17 (Nat.le_of_ble_eq_true rfl) (Nat.le_of_ble_eq_true rfl) ⟨I, g, rfl, by rw [hc]; rfl, fun h => absurd (hc.symm.trans h) (by decide), fun _ => rfl⟩
  · have h0 : kcp I r7 = 0 := hJ.1
    refine g_i2l hX dL_copy_7 ?_
    refine w_last hX (w1 := [] ++ pw ad cL (kf dT ad J)) (w2 := []) dL_copy_8 ?_
    refine g_goto (tgt := 18) hX dL_copy_9 (by decide) ?_
    refine g_iconst hX 0 dL_copy_18 rfl ?_
    exact w_iret hX hE dL_copy_19 (Nat.le_of_ble_eq_true rfl) (Nat.le_of_ble_eq_true rfl) ⟨J, vp_updL g 0 q.toInt64, rfl, by rw [h0]; rfl, fun _ => ⟨q, hJ, rfl⟩, fun h => absurd h0 h⟩
abbrev rm_L_unlike : Room := { frames := 8, cells := 2, slots := 12, locals := 126 }
theorem hd_L_unlike : yL_unlike.cls ≠ "java/lang/invoke/MethodHandle" ∧ yL_unlike.cls ≠ "java/lang/invoke/VarHandle" ∧ (parseMethodDescriptor yL_unlike.desc).map (fun d => d.parameters.length) = some 4 := by decide +kernel
set_option maxRecDepth 100000 in
set_option maxHeartbeats 4000000 in
theorem k_L_unlike {D : va_G} {dT : Nat → ClassId} {ad : Nat → Nat} {o : Nat} {g : Nat → Int64} (I : Nat → Nat → Int32) (r7 o7 : Int32) : ∀ l8 : Launch, l8.stackTraces = false → WI l8 yL_unlike wsL_unlike rm_L_unlike D dT (WJ dT ad I o g) [.ref (ad 0), .int r7, .int o7, .ref o] 2 12 (WPJ dT ad o (kun I r7 o7) I (fun x J => ∃ v, (fun q9 J => kun I r7 o7 = 0 ∧ I = J ∧ dis I r7.toNatClampNeg o7.toNatClampNeg = q9) v J ∧ cvI v = x)) := by
  intro l9 hl9
  refine wi_of hl9 (own := RL) (cc := cL_unlike) (maxL := 5) (hh := [(0, 10, 13, 19)]) [(0, .ref (ad 0)), (1, .int r7), (2, .int o7), (3, .ref o)] (by decide) rfl rfl rfl (Nat.le_of_ble_eq_true rfl) ?_
  intro X hX hE
  have q_c19 : Cond.classLink RL 19 "java/lang/IndexOutOfBoundsException" ∈ wsL_unlike := by decide +kernel
  unfold WJ
  refine g_aload_n hX 3 rfl dL_unlike_0 rfl ?_
  refine g_iconst hX 0 dL_unlike_1 rfl ?_
  refine g_aload_n hX 0 rfl dL_unlike_2 rfl ?_
  refine g_iload_n hX 1 rfl dL_unlike_3 rfl ?_
  refine g_iload_n hX 2 rfl dL_unlike_4 rfl ?_
  refine w_callI hX hE (w1 := []) (w2 := [(o, eJ dT g)]) [.int r7, .int o7] (k_X6_unlike I r7 o7) gL_unlike_X6_unlike rfl rfl rfl hd_X6_unlike ⟨(Nat.le_of_ble_eq_true rfl), (Nat.le_of_ble_eq_true rfl)⟩ ⟨(Nat.le_of_ble_eq_true rfl), (Nat.le_of_ble_eq_true rfl)⟩ rfl (Nat.le_of_ble_eq_true rfl) dL_unlike_5 (fun E hE9 => ?_) (fun q J hJ => ?_)
  · obtain ⟨rfl, hc⟩ := hE9
    refine ⟨[], [], ⟨0, 10, 13, 19⟩, rfl, fun z hz => (nomatch hz), by decide +kernel, by decide, by decide, q_c19, fun q9 => ?_⟩
    refine g_astore hX _ rfl dL_unlike_13 (Nat.le_of_ble_eq_true rfl) ?_
    refine g_iconst hX 1 dL_unlike_15 rfl ?_
    exact w_iret hX hE dL_unlike_16 (Nat.le_of_ble_eq_true rfl) (Nat.le_of_ble_eq_true rfl) ⟨I, g, rfl, by rw [hc]; rfl, fun h => absurd (hc.symm.trans h) (by decide), fun _ => rfl⟩
  · have h0 : kun I r7 o7 = 0 := hJ.1
    refine g_i2l hX dL_unlike_8 ?_
    refine w_last hX (w1 := [] ++ pw ad cL (kf dT ad J)) (w2 := []) dL_unlike_9 ?_
    refine g_goto (tgt := 17) hX dL_unlike_10 (by decide) ?_
    refine g_iconst hX 0 dL_unlike_17 rfl ?_
    exact w_iret hX hE dL_unlike_18 (Nat.le_of_ble_eq_true rfl) (Nat.le_of_ble_eq_true rfl) ⟨J, vp_updL g 0 q.toInt64, rfl, by rw [h0]; rfl, fun _ => ⟨q, hJ, rfl⟩, fun h => absurd h0 h⟩
abbrev rm_L_parent : Room := { frames := 8, cells := 8, slots := 48, locals := 129 }
theorem hd_L_parent : yL_parent.cls ≠ "java/lang/invoke/MethodHandle" ∧ yL_parent.cls ≠ "java/lang/invoke/VarHandle" ∧ (parseMethodDescriptor yL_parent.desc).map (fun d => d.parameters.length) = some 3 := by decide +kernel
set_option maxRecDepth 100000 in
set_option maxHeartbeats 4000000 in
theorem k_L_parent {D : va_G} {dT : Nat → ClassId} {ad : Nat → Nat} {o : Nat} {g : Nat → Int64} (I : Nat → Nat → Int32) (np : Nat) (hnp : I 0 6 = nI np) (hn4 : np ≤ 4) (r7 : Int32) : ∀ l8 : Launch, l8.stackTraces = false → WI l8 yL_parent wsL_parent rm_L_parent D dT (WJ dT ad I o g) [.ref (ad 0), .int r7, .ref o] 8 48 (WPJ dT ad o (kpa I r7) I (fun x J => ∃ v, (fun q J => kpa I r7 = 0 ∧ I = J ∧ nI (pfl I r7.toNatClampNeg (r7.toNatClampNeg - 1) 1 0 (dis I r7.toNatClampNeg 0)) = q) v J ∧ cvI v = x)) := by
  intro l9 hl9
  refine wi_of hl9 (own := RL) (cc := cL_parent) (maxL := 4) (hh := [(0, 9, 12, 19), (0, 9, 15, 44)]) [(0, .ref (ad 0)), (1, .int r7), (2, .ref o)] (by decide) rfl rfl rfl (Nat.le_of_ble_eq_true rfl) ?_
  intro X hX hE
  have q_c19 : Cond.classLink RL 19 "java/lang/IndexOutOfBoundsException" ∈ wsL_parent := by decide +kernel
  have q_c44 : Cond.classLink RL 44 "java/util/NoSuchElementException" ∈ wsL_parent := by decide +kernel
  unfold WJ
  refine g_aload_n hX 2 rfl dL_parent_0 rfl ?_
  refine g_iconst hX 0 dL_parent_1 rfl ?_
  refine g_aload_n hX 0 rfl dL_parent_2 rfl ?_
  refine g_iload_n hX 1 rfl dL_parent_3 rfl ?_
  refine w_callI hX hE (w1 := []) (w2 := [(o, eJ dT g)]) [.int r7] (k_X6_parent I np hnp hn4 r7) gL_parent_X6_parent rfl rfl rfl hd_X6_parent ⟨(Nat.le_of_ble_eq_true rfl), (Nat.le_of_ble_eq_true rfl)⟩ ⟨(Nat.le_of_ble_eq_true rfl), (Nat.le_of_ble_eq_true rfl)⟩ rfl (Nat.le_of_ble_eq_true rfl) dL_parent_4 (fun E hE9 => ?_) (fun q J hJ => ?_)
  · rcases hE9 with ⟨rfl, hc⟩ | ⟨rfl, hc⟩
    · refine ⟨[], [⟨0, 9, 15, 44⟩], ⟨0, 9, 12, 19⟩, rfl, fun z hz => (nomatch hz), by decide +kernel, by decide, by decide, q_c19, fun q9 => ?_⟩
      refine g_astore_n hX _ rfl dL_parent_12 rfl (Nat.le_of_ble_eq_true rfl) ?_
      refine g_iconst hX 1 dL_parent_13 rfl ?_
      exact w_iret hX hE dL_parent_14 (Nat.le_of_ble_eq_true rfl) (Nat.le_of_ble_eq_true rfl) ⟨I, g, rfl, by rw [hc]; rfl, fun h => absurd (hc.symm.trans h) (by decide), fun _ => rfl⟩
    · refine ⟨[⟨0, 9, 12, 19⟩], [], ⟨0, 9, 15, 44⟩, rfl, fun z hz => ?_, by decide +kernel, by decide, by decide, q_c44, fun q9 => ?_⟩
      · simp only [List.mem_cons, List.not_mem_nil, or_false] at hz
        subst hz
        exact ⟨by decide, xIO, by decide +kernel, q_c19, by decide⟩
      · refine g_astore_n hX _ rfl dL_parent_15 rfl (Nat.le_of_ble_eq_true rfl) ?_
        refine g_iconst hX 2 dL_parent_16 rfl ?_
        exact w_iret hX hE dL_parent_17 (Nat.le_of_ble_eq_true rfl) (Nat.le_of_ble_eq_true rfl) ⟨I, g, rfl, by rw [hc]; rfl, fun h => absurd (hc.symm.trans h) (by decide), fun _ => rfl⟩
  · have h0 : kpa I r7 = 0 := hJ.1
    refine g_i2l hX dL_parent_7 ?_
    refine w_last hX (w1 := [] ++ pw ad cL (kf dT ad J)) (w2 := []) dL_parent_8 ?_
    refine g_goto (tgt := 18) hX dL_parent_9 (by decide) ?_
    refine g_iconst hX 0 dL_parent_18 rfl ?_
    exact w_iret hX hE dL_parent_19 (Nat.le_of_ble_eq_true rfl) (Nat.le_of_ble_eq_true rfl) ⟨J, vp_updL g 0 q.toInt64, rfl, by rw [h0]; rfl, fun _ => ⟨q, hJ, rfl⟩, fun h => absurd h0 h⟩
abbrev rm_L_note : Room := { frames := 8, cells := 5, slots := 30, locals := 127 }
theorem hd_L_note : yL_note.cls ≠ "java/lang/invoke/MethodHandle" ∧ yL_note.cls ≠ "java/lang/invoke/VarHandle" ∧ (parseMethodDescriptor yL_note.desc).map (fun d => d.parameters.length) = some 5 := by decide +kernel
set_option maxRecDepth 100000 in
set_option maxHeartbeats 4000000 in
theorem k_L_note {D : va_G} {dT : Nat → ClassId} {ad : Nat → Nat} {o : Nat} {g : Nat → Int64} (I : Nat → Nat → Int32) (c : Nat) (hc : I 2 3 = nI c) (h40 : c ≤ 40) (f7 l7 p7 : Int32) : ∀ l8 : Launch, l8.stackTraces = false → WI l8 yL_note wsL_note rm_L_note D dT (WJ dT ad I o g) [.ref (ad 0), .int f7, .int l7, .int p7, .ref o] 5 30 (WPJ dT ad o (kno I c f7 l7 p7) I (fun x J => ∃ v, (fun q9 J => kno I c f7 l7 p7 = 0 ∧ typ (up2 I 0 7 (-1)) c f7 l7 p7 = J ∧ nI c + 1 = q9) v J ∧ cvI v = x)) := by
  intro l9 hl9
  refine wi_of hl9 (own := RL) (cc := cL_note) (maxL := 6) (hh := [(0, 12, 15, 21), (0, 12, 19, 50), (0, 12, 23, 13)]) [(0, .ref (ad 0)), (1, .int f7), (2, .int l7), (3, .int p7), (4, .ref o)] (by decide) rfl rfl rfl (Nat.le_of_ble_eq_true rfl) ?_
  intro X hX hE
  have q_c21 : Cond.classLink RL 21 "java/lang/IllegalArgumentException" ∈ wsL_note := by decide +kernel
  have q_c50 : Cond.classLink RL 50 "java/lang/UnsupportedOperationException" ∈ wsL_note := by decide +kernel
  have q_c13 : Cond.classLink RL 13 "java/lang/IllegalStateException" ∈ wsL_note := by decide +kernel
  unfold WJ
  refine g_aload hX 4 rfl dL_note_0 ?_
  refine g_iconst hX 0 dL_note_2 rfl ?_
  refine g_aload_n hX 0 rfl dL_note_3 rfl ?_
  refine g_iload_n hX 1 rfl dL_note_4 rfl ?_
  refine g_iload_n hX 2 rfl dL_note_5 rfl ?_
  refine g_iload_n hX 3 rfl dL_note_6 rfl ?_
  refine w_callI hX hE (w1 := []) (w2 := [(o, eJ dT g)]) [.int f7, .int l7, .int p7] (k_X6_note I c hc h40 f7 l7 p7) gL_note_X6_note rfl rfl rfl hd_X6_note ⟨(Nat.le_of_ble_eq_true rfl), (Nat.le_of_ble_eq_true rfl)⟩ ⟨(Nat.le_of_ble_eq_true rfl), (Nat.le_of_ble_eq_true rfl)⟩ rfl (Nat.le_of_ble_eq_true rfl) dL_note_7 (fun E hE9 => ?_) (fun q J hJ => ?_)
  · rcases hE9 with ⟨rfl, hc⟩ | ⟨rfl, hc⟩ | ⟨rfl, hc⟩
    · refine ⟨[], [⟨0, 12, 19, 50⟩, ⟨0, 12, 23, 13⟩], ⟨0, 12, 15, 21⟩, rfl, fun z hz => (nomatch hz), by decide +kernel, by decide, by decide, q_c21, fun q9 => ?_⟩
      refine g_astore hX _ rfl dL_note_15 (Nat.le_of_ble_eq_true rfl) ?_
      refine g_iconst hX 1 dL_note_17 rfl ?_
      exact w_iret hX hE dL_note_18 (Nat.le_of_ble_eq_true rfl) (Nat.le_of_ble_eq_true rfl) ⟨I, g, rfl, by rw [hc]; rfl, fun h => absurd (hc.symm.trans h) (by decide), fun _ => rfl⟩
    · refine ⟨[⟨0, 12, 15, 21⟩], [⟨0, 12, 23, 13⟩], ⟨0, 12, 19, 50⟩, rfl, fun z hz => ?_, by decide +kernel, by decide, by decide, q_c50, fun q9 => ?_⟩
      · simp only [List.mem_cons, List.not_mem_nil, or_false] at hz
        subst hz
        exact ⟨by decide, xIA, by decide +kernel, q_c21, by decide⟩
      · refine g_astore hX _ rfl dL_note_19 (Nat.le_of_ble_eq_true rfl) ?_
        refine g_iconst hX 2 dL_note_21 rfl ?_
        exact w_iret hX hE dL_note_22 (Nat.le_of_ble_eq_true rfl) (Nat.le_of_ble_eq_true rfl) ⟨I, g, rfl, by rw [hc]; rfl, fun h => absurd (hc.symm.trans h) (by decide), fun _ => rfl⟩
    · refine ⟨[⟨0, 12, 15, 21⟩, ⟨0, 12, 19, 50⟩], [], ⟨0, 12, 23, 13⟩, rfl, fun z hz => ?_, by decide +kernel, by decide, by decide, q_c13, fun q9 => ?_⟩
      · simp only [List.mem_cons, List.not_mem_nil, or_false] at hz
        rcases hz with rfl | rfl
        · exact ⟨by decide, xIA, by decide +kernel, q_c21, by decide⟩
        · exact ⟨by decide, xUO, by decide +kernel, q_c50, by decide⟩
      · refine g_astore hX _ rfl dL_note_23 (Nat.le_of_ble_eq_true rfl) ?_
        refine g_iconst hX 3 dL_note_25 rfl ?_
        exact w_iret hX hE dL_note_26 (Nat.le_of_ble_eq_true rfl) (Nat.le_of_ble_eq_true rfl) ⟨I, g, rfl, by rw [hc]; rfl, fun h => absurd (hc.symm.trans h) (by decide), fun _ => rfl⟩
  · have h0 : kno I c f7 l7 p7 = 0 := hJ.1
    refine g_i2l hX dL_note_10 ?_
    refine w_last hX (w1 := [] ++ pw ad cL (kf dT ad J)) (w2 := []) dL_note_11 ?_
    refine g_goto (tgt := 27) hX dL_note_12 (by decide) ?_
    refine g_iconst hX 0 dL_note_27 rfl ?_
    exact w_iret hX hE dL_note_28 (Nat.le_of_ble_eq_true rfl) (Nat.le_of_ble_eq_true rfl) ⟨J, vp_updL g 0 q.toInt64, rfl, by rw [h0]; rfl, fun _ => ⟨q, hJ, rfl⟩, fun h => absurd h0 h⟩
abbrev rm_L_arrange : Room := { frames := 8, cells := 1, slots := 6, locals := 126 }
theorem hd_L_arrange : yL_arrange.cls ≠ "java/lang/invoke/MethodHandle" ∧ yL_arrange.cls ≠ "java/lang/invoke/VarHandle" ∧ (parseMethodDescriptor yL_arrange.desc).map (fun d => d.parameters.length) = some 4 := by decide +kernel
set_option maxRecDepth 100000 in
set_option maxHeartbeats 4000000 in
theorem k_L_arrange {D : va_G} {dT : Nat → ClassId} {ad : Nat → Nat} {o : Nat} {g : Nat → Int64} (I : Nat → Nat → Int32) (c : Nat) (hc : I 2 3 = nI c) (h40 : c ≤ 40) (ln : Nat → Nat) (hln : ∀ n, n < c → I 13 n = nI (ln n) ∧ ln n ≤ 200) (r7 br7 : Int32) : ∀ l8 : Launch, l8.stackTraces = false → WI l8 yL_arrange wsL_arrange rm_L_arrange D dT (WJ dT ad I o g) [.ref (ad 0), .int r7, .int br7, .ref o] 1 6 (WPJ dT ad o (kr1 I r7) I (fun x J => ∃ v, (fun q9 J => kr1 I r7 = 0 ∧ arr1 I r7 br7 ln c = J ∧ sumB (fun q => bcnt (arr1 I r7 br7 ln c (8 + r7.toNatClampNeg) q &&& 4095)) 200 = q9) v J ∧ cvI v = x)) := by
  intro l9 hl9
  refine wi_of hl9 (own := RL) (cc := cL_arrange) (maxL := 5) (hh := [(0, 10, 13, 19)]) [(0, .ref (ad 0)), (1, .int r7), (2, .int br7), (3, .ref o)] (by decide) rfl rfl rfl (Nat.le_of_ble_eq_true rfl) ?_
  intro X hX hE
  have q_c19 : Cond.classLink RL 19 "java/lang/IndexOutOfBoundsException" ∈ wsL_arrange := by decide +kernel
  unfold WJ
  refine g_aload_n hX 3 rfl dL_arrange_0 rfl ?_
  refine g_iconst hX 0 dL_arrange_1 rfl ?_
  refine g_aload_n hX 0 rfl dL_arrange_2 rfl ?_
  refine g_iload_n hX 1 rfl dL_arrange_3 rfl ?_
  refine g_iload_n hX 2 rfl dL_arrange_4 rfl ?_
  refine w_callI hX hE (w1 := []) (w2 := [(o, eJ dT g)]) [.int r7, .int br7] (k_X6_arrange I c hc h40 ln hln r7 br7) gL_arrange_X6_arrange rfl rfl rfl hd_X6_arrange ⟨(Nat.le_of_ble_eq_true rfl), (Nat.le_of_ble_eq_true rfl)⟩ ⟨(Nat.le_of_ble_eq_true rfl), (Nat.le_of_ble_eq_true rfl)⟩ rfl (Nat.le_of_ble_eq_true rfl) dL_arrange_5 (fun E hE9 => ?_) (fun q J hJ => ?_)
  · obtain ⟨rfl, hc⟩ := hE9
    refine ⟨[], [], ⟨0, 10, 13, 19⟩, rfl, fun z hz => (nomatch hz), by decide +kernel, by decide, by decide, q_c19, fun q9 => ?_⟩
    refine g_astore hX _ rfl dL_arrange_13 (Nat.le_of_ble_eq_true rfl) ?_
    refine g_iconst hX 1 dL_arrange_15 rfl ?_
    exact w_iret hX hE dL_arrange_16 (Nat.le_of_ble_eq_true rfl) (Nat.le_of_ble_eq_true rfl) ⟨I, g, rfl, by rw [hc]; rfl, fun h => absurd (hc.symm.trans h) (by decide), fun _ => rfl⟩
  · have h0 : kr1 I r7 = 0 := hJ.1
    refine g_i2l hX dL_arrange_8 ?_
    refine w_last hX (w1 := [] ++ pw ad cL (kf dT ad J)) (w2 := []) dL_arrange_9 ?_
    refine g_goto (tgt := 17) hX dL_arrange_10 (by decide) ?_
    refine g_iconst hX 0 dL_arrange_17 rfl ?_
    exact w_iret hX hE dL_arrange_18 (Nat.le_of_ble_eq_true rfl) (Nat.le_of_ble_eq_true rfl) ⟨J, vp_updL g 0 q.toInt64, rfl, by rw [h0]; rfl, fun _ => ⟨q, hJ, rfl⟩, fun h => absurd h0 h⟩
abbrev rm_L_scanned : Room := { frames := 8, cells := 1, slots := 6, locals := 124 }
theorem hd_L_scanned : yL_scanned.cls ≠ "java/lang/invoke/MethodHandle" ∧ yL_scanned.cls ≠ "java/lang/invoke/VarHandle" ∧ (parseMethodDescriptor yL_scanned.desc).map (fun d => d.parameters.length) = some 3 := by decide +kernel
set_option maxRecDepth 100000 in
set_option maxHeartbeats 4000000 in
theorem k_L_scanned {D : va_G} {dT : Nat → ClassId} {ad : Nat → Nat} {o : Nat} {g : Nat → Int64} (I : Nat → Nat → Int32) (r7 : Int32) : ∀ l8 : Launch, l8.stackTraces = false → WI l8 yL_scanned wsL_scanned rm_L_scanned D dT (WJ dT ad I o g) [.ref (ad 0), .int r7, .ref o] 1 6 (WPJ dT ad o (kr1 I r7) I (fun x J => ∃ v, (fun q9 J => kr1 I r7 = 0 ∧ I = J ∧ sumB (fun q => bcnt (fb I r7.toNatClampNeg (nI q))) 200 = q9) v J ∧ cvI v = x)) := by
  intro l9 hl9
  refine wi_of hl9 (own := RL) (cc := cL_scanned) (maxL := 4) (hh := [(0, 9, 12, 19)]) [(0, .ref (ad 0)), (1, .int r7), (2, .ref o)] (by decide) rfl rfl rfl (Nat.le_of_ble_eq_true rfl) ?_
  intro X hX hE
  have q_c19 : Cond.classLink RL 19 "java/lang/IndexOutOfBoundsException" ∈ wsL_scanned := by decide +kernel
  unfold WJ
  refine g_aload_n hX 2 rfl dL_scanned_0 rfl ?_
  refine g_iconst hX 0 dL_scanned_1 rfl ?_
  refine g_aload_n hX 0 rfl dL_scanned_2 rfl ?_
  refine g_iload_n hX 1 rfl dL_scanned_3 rfl ?_
  refine w_callI hX hE (w1 := []) (w2 := [(o, eJ dT g)]) [.int r7] (k_X6_scanned I r7) gL_scanned_X6_scanned rfl rfl rfl hd_X6_scanned ⟨(Nat.le_of_ble_eq_true rfl), (Nat.le_of_ble_eq_true rfl)⟩ ⟨(Nat.le_of_ble_eq_true rfl), (Nat.le_of_ble_eq_true rfl)⟩ rfl (Nat.le_of_ble_eq_true rfl) dL_scanned_4 (fun E hE9 => ?_) (fun q J hJ => ?_)
  · obtain ⟨rfl, hc⟩ := hE9
    refine ⟨[], [], ⟨0, 9, 12, 19⟩, rfl, fun z hz => (nomatch hz), by decide +kernel, by decide, by decide, q_c19, fun q9 => ?_⟩
    refine g_astore_n hX _ rfl dL_scanned_12 rfl (Nat.le_of_ble_eq_true rfl) ?_
    refine g_iconst hX 1 dL_scanned_13 rfl ?_
    exact w_iret hX hE dL_scanned_14 (Nat.le_of_ble_eq_true rfl) (Nat.le_of_ble_eq_true rfl) ⟨I, g, rfl, by rw [hc]; rfl, fun h => absurd (hc.symm.trans h) (by decide), fun _ => rfl⟩
  · have h0 : kr1 I r7 = 0 := hJ.1
    refine g_i2l hX dL_scanned_7 ?_
    refine w_last hX (w1 := [] ++ pw ad cL (kf dT ad J)) (w2 := []) dL_scanned_8 ?_
    refine g_goto (tgt := 15) hX dL_scanned_9 (by decide) ?_
    refine g_iconst hX 0 dL_scanned_15 rfl ?_
    exact w_iret hX hE dL_scanned_16 (Nat.le_of_ble_eq_true rfl) (Nat.le_of_ble_eq_true rfl) ⟨J, vp_updL g 0 q.toInt64, rfl, by rw [h0]; rfl, fun _ => ⟨q, hJ, rfl⟩, fun h => absurd h0 h⟩
abbrev rm_L_scan : Room := { frames := 8, cells := 2, slots := 12, locals := 130 }
theorem hd_L_scan : yL_scan.cls ≠ "java/lang/invoke/MethodHandle" ∧ yL_scan.cls ≠ "java/lang/invoke/VarHandle" ∧ (parseMethodDescriptor yL_scan.desc).map (fun d => d.parameters.length) = some 5 := by decide +kernel
set_option maxRecDepth 100000 in
set_option maxHeartbeats 4000000 in
theorem k_L_scan {D : va_G} {dT : Nat → ClassId} {ad : Nat → Nat} {o : Nat} {g : Nat → Int64} (I : Nat → Nat → Int32) (r7 x7 w7 : Int32) : ∀ l8 : Launch, l8.stackTraces = false → WI l8 yL_scan wsL_scan rm_L_scan D dT (WJ dT ad I o g) [.ref (ad 0), .int r7, .int x7, .int w7, .ref o] 2 12 (WPJ dT ad o (ksc I r7 x7 w7) I (fun x J => ∃ v, (fun q9 J => ksc I r7 x7 w7 = 0 ∧ I = J ∧ scv I r7 x7 w7 = q9) v J ∧ cvI v = x)) := by
  intro l9 hl9
  refine wi_of hl9 (own := RL) (cc := cL_scan) (maxL := 6) (hh := [(0, 12, 15, 19), (0, 12, 19, 21), (0, 12, 23, 44)]) [(0, .ref (ad 0)), (1, .int r7), (2, .int x7), (3, .int w7), (4, .ref o)] (by decide) rfl rfl rfl (Nat.le_of_ble_eq_true rfl) ?_
  intro X hX hE
  have q_c19 : Cond.classLink RL 19 "java/lang/IndexOutOfBoundsException" ∈ wsL_scan := by decide +kernel
  have q_c21 : Cond.classLink RL 21 "java/lang/IllegalArgumentException" ∈ wsL_scan := by decide +kernel
  have q_c44 : Cond.classLink RL 44 "java/util/NoSuchElementException" ∈ wsL_scan := by decide +kernel
  unfold WJ
  refine g_aload hX 4 rfl dL_scan_0 ?_
  refine g_iconst hX 0 dL_scan_2 rfl ?_
  refine g_aload_n hX 0 rfl dL_scan_3 rfl ?_
  refine g_iload_n hX 1 rfl dL_scan_4 rfl ?_
  refine g_iload_n hX 2 rfl dL_scan_5 rfl ?_
  refine g_iload_n hX 3 rfl dL_scan_6 rfl ?_
  refine w_callI hX hE (w1 := []) (w2 := [(o, eJ dT g)]) [.int r7, .int x7, .int w7] (k_X6_scan I r7 x7 w7) gL_scan_X6_scan rfl rfl rfl hd_X6_scan ⟨(Nat.le_of_ble_eq_true rfl), (Nat.le_of_ble_eq_true rfl)⟩ ⟨(Nat.le_of_ble_eq_true rfl), (Nat.le_of_ble_eq_true rfl)⟩ rfl (Nat.le_of_ble_eq_true rfl) dL_scan_7 (fun E hE9 => ?_) (fun q J hJ => ?_)
  · rcases hE9 with ⟨rfl, hc⟩ | ⟨rfl, hc⟩ | ⟨rfl, hc⟩
    · refine ⟨[], [⟨0, 12, 19, 21⟩, ⟨0, 12, 23, 44⟩], ⟨0, 12, 15, 19⟩, rfl, fun z hz => (nomatch hz), by decide +kernel, by decide, by decide, q_c19, fun q9 => ?_⟩
      refine g_astore hX _ rfl dL_scan_15 (Nat.le_of_ble_eq_true rfl) ?_
      refine g_iconst hX 1 dL_scan_17 rfl ?_
      exact w_iret hX hE dL_scan_18 (Nat.le_of_ble_eq_true rfl) (Nat.le_of_ble_eq_true rfl) ⟨I, g, rfl, by rw [hc]; rfl, fun h => absurd (hc.symm.trans h) (by decide), fun _ => rfl⟩
    · refine ⟨[⟨0, 12, 15, 19⟩], [⟨0, 12, 23, 44⟩], ⟨0, 12, 19, 21⟩, rfl, fun z hz => ?_, by decide +kernel, by decide, by decide, q_c21, fun q9 => ?_⟩
      · simp only [List.mem_cons, List.not_mem_nil, or_false] at hz
        subst hz
        exact ⟨by decide, xIO, by decide +kernel, q_c19, by decide⟩
      · refine g_astore hX _ rfl dL_scan_19 (Nat.le_of_ble_eq_true rfl) ?_
        refine g_iconst hX 2 dL_scan_21 rfl ?_
        exact w_iret hX hE dL_scan_22 (Nat.le_of_ble_eq_true rfl) (Nat.le_of_ble_eq_true rfl) ⟨I, g, rfl, by rw [hc]; rfl, fun h => absurd (hc.symm.trans h) (by decide), fun _ => rfl⟩
    · refine ⟨[⟨0, 12, 15, 19⟩, ⟨0, 12, 19, 21⟩], [], ⟨0, 12, 23, 44⟩, rfl, fun z hz => ?_, by decide +kernel, by decide, by decide, q_c44, fun q9 => ?_⟩
      · simp only [List.mem_cons, List.not_mem_nil, or_false] at hz
        rcases hz with rfl | rfl
        · exact ⟨by decide, xIO, by decide +kernel, q_c19, by decide⟩
        · exact ⟨by decide, xIA, by decide +kernel, q_c21, by decide⟩
      · refine g_astore hX _ rfl dL_scan_23 (Nat.le_of_ble_eq_true rfl) ?_
        refine g_iconst hX 3 dL_scan_25 rfl ?_
        exact w_iret hX hE dL_scan_26 (Nat.le_of_ble_eq_true rfl) (Nat.le_of_ble_eq_true rfl) ⟨I, g, rfl, by rw [hc]; rfl, fun h => absurd (hc.symm.trans h) (by decide), fun _ => rfl⟩
  · have h0 : ksc I r7 x7 w7 = 0 := hJ.1
    refine g_i2l hX dL_scan_10 ?_
    refine w_last hX (w1 := [] ++ pw ad cL (kf dT ad J)) (w2 := []) dL_scan_11 ?_
    refine g_goto (tgt := 27) hX dL_scan_12 (by decide) ?_
    refine g_iconst hX 0 dL_scan_27 rfl ?_
    exact w_iret hX hE dL_scan_28 (Nat.le_of_ble_eq_true rfl) (Nat.le_of_ble_eq_true rfl) ⟨J, vp_updL g 0 q.toInt64, rfl, by rw [h0]; rfl, fun _ => ⟨q, hJ, rfl⟩, fun h => absurd h0 h⟩
abbrev rm_L_isMusic : Room := { frames := 8, cells := 1, slots := 6, locals := 124 }
theorem hd_L_isMusic : yL_isMusic.cls ≠ "java/lang/invoke/MethodHandle" ∧ yL_isMusic.cls ≠ "java/lang/invoke/VarHandle" ∧ (parseMethodDescriptor yL_isMusic.desc).map (fun d => d.parameters.length) = some 3 := by decide +kernel
set_option maxRecDepth 100000 in
set_option maxHeartbeats 4000000 in
theorem k_L_isMusic {D : va_G} {dT : Nat → ClassId} {ad : Nat → Nat} {o : Nat} {g : Nat → Int64} (I : Nat → Nat → Int32) (c : Nat) (hc : I 2 3 = nI c) (h40 : c ≤ 40) (fa : Nat → Nat) (hfa : ∀ n, n < c → I 12 n = nI (fa n) ∧ fa n < 200) (r7 : Int32) : ∀ l8 : Launch, l8.stackTraces = false → WI l8 yL_isMusic wsL_isMusic rm_L_isMusic D dT (WJ dT ad I o g) [.ref (ad 0), .int r7, .ref o] 1 6 (WPJ dT ad o (kr1 I r7) I (fun x J => ∃ v, (fun q9 J => kr1 I r7 = 0 ∧ I = J ∧ iscn I r7.toNatClampNeg c fa = q9) v J ∧ cvB v = x)) := by
  intro l9 hl9
  refine wi_of hl9 (own := RL) (cc := cL_isMusic) (maxL := 4) (hh := [(0, 16, 19, 19)]) [(0, .ref (ad 0)), (1, .int r7), (2, .ref o)] (by decide) rfl rfl rfl (Nat.le_of_ble_eq_true rfl) ?_
  intro X hX hE
  have q_c19 : Cond.classLink RL 19 "java/lang/IndexOutOfBoundsException" ∈ wsL_isMusic := by decide +kernel
  unfold WJ
  refine g_aload_n hX 2 rfl dL_isMusic_0 rfl ?_
  refine g_iconst hX 0 dL_isMusic_1 rfl ?_
  refine g_aload_n hX 0 rfl dL_isMusic_2 rfl ?_
  refine g_iload_n hX 1 rfl dL_isMusic_3 rfl ?_
  refine w_callI hX hE (w1 := []) (w2 := [(o, eJ dT g)]) [.int r7] (k_X6_isMusic I c hc h40 fa hfa r7) gL_isMusic_X6_isMusic rfl rfl rfl hd_X6_isMusic ⟨(Nat.le_of_ble_eq_true rfl), (Nat.le_of_ble_eq_true rfl)⟩ ⟨(Nat.le_of_ble_eq_true rfl), (Nat.le_of_ble_eq_true rfl)⟩ rfl (Nat.le_of_ble_eq_true rfl) dL_isMusic_4 (fun E hE9 => ?_) (fun q J hJ => ?_)
  · obtain ⟨rfl, hc⟩ := hE9
    refine ⟨[], [], ⟨0, 16, 19, 19⟩, rfl, fun z hz => (nomatch hz), by decide +kernel, by decide, by decide, q_c19, fun q9 => ?_⟩
    refine g_astore_n hX _ rfl dL_isMusic_19 rfl (Nat.le_of_ble_eq_true rfl) ?_
    refine g_iconst hX 1 dL_isMusic_20 rfl ?_
    exact w_iret hX hE dL_isMusic_21 (Nat.le_of_ble_eq_true rfl) (Nat.le_of_ble_eq_true rfl) ⟨I, g, rfl, by rw [hc]; rfl, fun h => absurd (hc.symm.trans h) (by decide), fun _ => rfl⟩
  · have h0 : kr1 I r7 = 0 := hJ.1
    refine g_if_eq (tgt := 14) hX dL_isMusic_7 (by decide) (fun c1 => ?_) (fun c1 => ?_)
    · refine g_lconst hX 0 dL_isMusic_14 rfl ?_
      refine w_last hX (w1 := [] ++ pw ad cL (kf dT ad J)) (w2 := []) dL_isMusic_15 ?_
      refine g_goto (tgt := 22) hX dL_isMusic_16 (by decide) ?_
      refine g_iconst hX 0 dL_isMusic_22 rfl ?_
      exact w_iret hX hE dL_isMusic_23 (Nat.le_of_ble_eq_true rfl) (Nat.le_of_ble_eq_true rfl) ⟨J, vp_updL g 0 0, rfl, by rw [h0]; rfl, fun _ => ⟨q, hJ, by rw [c1]; rfl⟩, fun h => absurd h0 h⟩
    · refine g_lconst hX 1 dL_isMusic_10 rfl ?_
      refine g_goto (tgt := 15) hX dL_isMusic_11 (by decide) ?_
      refine w_last hX (w1 := [] ++ pw ad cL (kf dT ad J)) (w2 := []) dL_isMusic_15 ?_
      refine g_goto (tgt := 22) hX dL_isMusic_16 (by decide) ?_
      refine g_iconst hX 0 dL_isMusic_22 rfl ?_
      exact w_iret hX hE dL_isMusic_23 (Nat.le_of_ble_eq_true rfl) (Nat.le_of_ble_eq_true rfl) ⟨J, vp_updL g 0 1, rfl, by rw [h0]; rfl, fun _ => ⟨q, hJ, if_neg c1⟩, fun h => absurd h0 h⟩
abbrev rm_L_valve : Room := { frames := 8, cells := 3, slots := 18, locals := 129 }
theorem hd_L_valve : yL_valve.cls ≠ "java/lang/invoke/MethodHandle" ∧ yL_valve.cls ≠ "java/lang/invoke/VarHandle" ∧ (parseMethodDescriptor yL_valve.desc).map (fun d => d.parameters.length) = some 5 := by decide +kernel
set_option maxRecDepth 100000 in
set_option maxHeartbeats 4000000 in
theorem k_L_valve {D : va_G} {dT : Nat → ClassId} {ad : Nat → Nat} {o : Nat} {g : Nat → Int64} (I : Nat → Nat → Int32) (n7 d7 q7 : Int32) : ∀ l8 : Launch, l8.stackTraces = false → WI l8 yL_valve wsL_valve rm_L_valve D dT (WJ dT ad I o g) [.ref (ad 0), .int n7, .int d7, .int q7, .ref o] 3 18 (WPJ dT ad o (kva n7 d7 q7) I (fun x J => ∃ v, (fun q9 J => kva n7 d7 q7 = 0 ∧ up2 (up2 I (24 + n7.toNatClampNeg) 0 d7) (24 + n7.toNatClampNeg) 1 q7 = J ∧ I (24 + n7.toNatClampNeg) 0 = q9) v J ∧ cvI v = x)) := by
  intro l9 hl9
  refine wi_of hl9 (own := RL) (cc := cL_valve) (maxL := 6) (hh := [(0, 12, 15, 19), (0, 12, 19, 21)]) [(0, .ref (ad 0)), (1, .int n7), (2, .int d7), (3, .int q7), (4, .ref o)] (by decide) rfl rfl rfl (Nat.le_of_ble_eq_true rfl) ?_
  intro X hX hE
  have q_c19 : Cond.classLink RL 19 "java/lang/IndexOutOfBoundsException" ∈ wsL_valve := by decide +kernel
  have q_c21 : Cond.classLink RL 21 "java/lang/IllegalArgumentException" ∈ wsL_valve := by decide +kernel
  unfold WJ
  refine g_aload hX 4 rfl dL_valve_0 ?_
  refine g_iconst hX 0 dL_valve_2 rfl ?_
  refine g_aload_n hX 0 rfl dL_valve_3 rfl ?_
  refine g_iload_n hX 1 rfl dL_valve_4 rfl ?_
  refine g_iload_n hX 2 rfl dL_valve_5 rfl ?_
  refine g_iload_n hX 3 rfl dL_valve_6 rfl ?_
  refine w_callI hX hE (w1 := []) (w2 := [(o, eJ dT g)]) [.int n7, .int d7, .int q7] (k_X6_valve I n7 d7 q7) gL_valve_X6_valve rfl rfl rfl hd_X6_valve ⟨(Nat.le_of_ble_eq_true rfl), (Nat.le_of_ble_eq_true rfl)⟩ ⟨(Nat.le_of_ble_eq_true rfl), (Nat.le_of_ble_eq_true rfl)⟩ rfl (Nat.le_of_ble_eq_true rfl) dL_valve_7 (fun E hE9 => ?_) (fun q J hJ => ?_)
  · rcases hE9 with ⟨rfl, hc⟩ | ⟨rfl, hc⟩
    · refine ⟨[], [⟨0, 12, 19, 21⟩], ⟨0, 12, 15, 19⟩, rfl, fun z hz => (nomatch hz), by decide +kernel, by decide, by decide, q_c19, fun q9 => ?_⟩
      refine g_astore hX _ rfl dL_valve_15 (Nat.le_of_ble_eq_true rfl) ?_
      refine g_iconst hX 1 dL_valve_17 rfl ?_
      exact w_iret hX hE dL_valve_18 (Nat.le_of_ble_eq_true rfl) (Nat.le_of_ble_eq_true rfl) ⟨I, g, rfl, by rw [hc]; rfl, fun h => absurd (hc.symm.trans h) (by decide), fun _ => rfl⟩
    · refine ⟨[⟨0, 12, 15, 19⟩], [], ⟨0, 12, 19, 21⟩, rfl, fun z hz => ?_, by decide +kernel, by decide, by decide, q_c21, fun q9 => ?_⟩
      · simp only [List.mem_cons, List.not_mem_nil, or_false] at hz
        subst hz
        exact ⟨by decide, xIO, by decide +kernel, q_c19, by decide⟩
      · refine g_astore hX _ rfl dL_valve_19 (Nat.le_of_ble_eq_true rfl) ?_
        refine g_iconst hX 2 dL_valve_21 rfl ?_
        exact w_iret hX hE dL_valve_22 (Nat.le_of_ble_eq_true rfl) (Nat.le_of_ble_eq_true rfl) ⟨I, g, rfl, by rw [hc]; rfl, fun h => absurd (hc.symm.trans h) (by decide), fun _ => rfl⟩
  · have h0 : kva n7 d7 q7 = 0 := hJ.1
    refine g_i2l hX dL_valve_10 ?_
    refine w_last hX (w1 := [] ++ pw ad cL (kf dT ad J)) (w2 := []) dL_valve_11 ?_
    refine g_goto (tgt := 23) hX dL_valve_12 (by decide) ?_
    refine g_iconst hX 0 dL_valve_23 rfl ?_
    exact w_iret hX hE dL_valve_24 (Nat.le_of_ble_eq_true rfl) (Nat.le_of_ble_eq_true rfl) ⟨J, vp_updL g 0 q.toInt64, rfl, by rw [h0]; rfl, fun _ => ⟨q, hJ, rfl⟩, fun h => absurd h0 h⟩
abbrev rm_L_use : Room := { frames := 8, cells := 2, slots := 12, locals := 128 }
theorem hd_L_use : yL_use.cls ≠ "java/lang/invoke/MethodHandle" ∧ yL_use.cls ≠ "java/lang/invoke/VarHandle" ∧ (parseMethodDescriptor yL_use.desc).map (fun d => d.parameters.length) = some 4 := by decide +kernel
set_option maxRecDepth 100000 in
set_option maxHeartbeats 4000000 in
theorem k_L_use {D : va_G} {dT : Nat → ClassId} {ad : Nat → Nat} {o : Nat} {g : Nat → Int64} (I : Nat → Nat → Int32) (n7 u7 : Int32) : ∀ l8 : Launch, l8.stackTraces = false → WI l8 yL_use wsL_use rm_L_use D dT (WJ dT ad I o g) [.ref (ad 0), .int n7, .int u7, .ref o] 2 12 (WPJ dT ad o (kus n7 u7) I (fun x J => ∃ v, (fun q9 J => kus n7 u7 = 0 ∧ up2 I (24 + n7.toNatClampNeg) 2 u7 = J ∧ I (24 + n7.toNatClampNeg) 2 = q9) v J ∧ cvI v = x)) := by
  intro l9 hl9
  refine wi_of hl9 (own := RL) (cc := cL_use) (maxL := 5) (hh := [(0, 10, 13, 19), (0, 10, 17, 21)]) [(0, .ref (ad 0)), (1, .int n7), (2, .int u7), (3, .ref o)] (by decide) rfl rfl rfl (Nat.le_of_ble_eq_true rfl) ?_
  intro X hX hE
  have q_c19 : Cond.classLink RL 19 "java/lang/IndexOutOfBoundsException" ∈ wsL_use := by decide +kernel
  have q_c21 : Cond.classLink RL 21 "java/lang/IllegalArgumentException" ∈ wsL_use := by decide +kernel
  unfold WJ
  refine g_aload_n hX 3 rfl dL_use_0 rfl ?_
  refine g_iconst hX 0 dL_use_1 rfl ?_
  refine g_aload_n hX 0 rfl dL_use_2 rfl ?_
  refine g_iload_n hX 1 rfl dL_use_3 rfl ?_
  refine g_iload_n hX 2 rfl dL_use_4 rfl ?_
  refine w_callI hX hE (w1 := []) (w2 := [(o, eJ dT g)]) [.int n7, .int u7] (k_X6_use I n7 u7) gL_use_X6_use rfl rfl rfl hd_X6_use ⟨(Nat.le_of_ble_eq_true rfl), (Nat.le_of_ble_eq_true rfl)⟩ ⟨(Nat.le_of_ble_eq_true rfl), (Nat.le_of_ble_eq_true rfl)⟩ rfl (Nat.le_of_ble_eq_true rfl) dL_use_5 (fun E hE9 => ?_) (fun q J hJ => ?_)
  · rcases hE9 with ⟨rfl, hc⟩ | ⟨rfl, hc⟩
    · refine ⟨[], [⟨0, 10, 17, 21⟩], ⟨0, 10, 13, 19⟩, rfl, fun z hz => (nomatch hz), by decide +kernel, by decide, by decide, q_c19, fun q9 => ?_⟩
      refine g_astore hX _ rfl dL_use_13 (Nat.le_of_ble_eq_true rfl) ?_
      refine g_iconst hX 1 dL_use_15 rfl ?_
      exact w_iret hX hE dL_use_16 (Nat.le_of_ble_eq_true rfl) (Nat.le_of_ble_eq_true rfl) ⟨I, g, rfl, by rw [hc]; rfl, fun h => absurd (hc.symm.trans h) (by decide), fun _ => rfl⟩
    · refine ⟨[⟨0, 10, 13, 19⟩], [], ⟨0, 10, 17, 21⟩, rfl, fun z hz => ?_, by decide +kernel, by decide, by decide, q_c21, fun q9 => ?_⟩
      · simp only [List.mem_cons, List.not_mem_nil, or_false] at hz
        subst hz
        exact ⟨by decide, xIO, by decide +kernel, q_c19, by decide⟩
      · refine g_astore hX _ rfl dL_use_17 (Nat.le_of_ble_eq_true rfl) ?_
        refine g_iconst hX 2 dL_use_19 rfl ?_
        exact w_iret hX hE dL_use_20 (Nat.le_of_ble_eq_true rfl) (Nat.le_of_ble_eq_true rfl) ⟨I, g, rfl, by rw [hc]; rfl, fun h => absurd (hc.symm.trans h) (by decide), fun _ => rfl⟩
  · have h0 : kus n7 u7 = 0 := hJ.1
    refine g_i2l hX dL_use_8 ?_
    refine w_last hX (w1 := [] ++ pw ad cL (kf dT ad J)) (w2 := []) dL_use_9 ?_
    refine g_goto (tgt := 21) hX dL_use_10 (by decide) ?_
    refine g_iconst hX 0 dL_use_21 rfl ?_
    exact w_iret hX hE dL_use_22 (Nat.le_of_ble_eq_true rfl) (Nat.le_of_ble_eq_true rfl) ⟨J, vp_updL g 0 q.toInt64, rfl, by rw [h0]; rfl, fun _ => ⟨q, hJ, rfl⟩, fun h => absurd h0 h⟩
abbrev rm_L_borrow : Room := { frames := 8, cells := 3, slots := 18, locals := 128 }
theorem hd_L_borrow : yL_borrow.cls ≠ "java/lang/invoke/MethodHandle" ∧ yL_borrow.cls ≠ "java/lang/invoke/VarHandle" ∧ (parseMethodDescriptor yL_borrow.desc).map (fun d => d.parameters.length) = some 4 := by decide +kernel
set_option maxRecDepth 100000 in
set_option maxHeartbeats 4000000 in
theorem k_L_borrow {D : va_G} {dT : Nat → ClassId} {ad : Nat → Nat} {o : Nat} {g : Nat → Int64} (I : Nat → Nat → Int32) (n7 o7 : Int32) : ∀ l8 : Launch, l8.stackTraces = false → WI l8 yL_borrow wsL_borrow rm_L_borrow D dT (WJ dT ad I o g) [.ref (ad 0), .int n7, .int o7, .ref o] 3 18 (WPJ dT ad o (kbo I n7 o7) I (fun x J => ∃ v, (fun q9 J => kbo I n7 o7 = 0 ∧ up2 I (24 + n7.toNatClampNeg) 3 o7 = J ∧ I (24 + n7.toNatClampNeg) 3 = q9) v J ∧ cvI v = x)) := by
  intro l9 hl9
  refine wi_of hl9 (own := RL) (cc := cL_borrow) (maxL := 5) (hh := [(0, 10, 13, 19), (0, 10, 17, 50)]) [(0, .ref (ad 0)), (1, .int n7), (2, .int o7), (3, .ref o)] (by decide) rfl rfl rfl (Nat.le_of_ble_eq_true rfl) ?_
  intro X hX hE
  have q_c19 : Cond.classLink RL 19 "java/lang/IndexOutOfBoundsException" ∈ wsL_borrow := by decide +kernel
  have q_c50 : Cond.classLink RL 50 "java/lang/UnsupportedOperationException" ∈ wsL_borrow := by decide +kernel
  unfold WJ
  refine g_aload_n hX 3 rfl dL_borrow_0 rfl ?_
  refine g_iconst hX 0 dL_borrow_1 rfl ?_
  refine g_aload_n hX 0 rfl dL_borrow_2 rfl ?_
  refine g_iload_n hX 1 rfl dL_borrow_3 rfl ?_
  refine g_iload_n hX 2 rfl dL_borrow_4 rfl ?_
  refine w_callI hX hE (w1 := []) (w2 := [(o, eJ dT g)]) [.int n7, .int o7] (k_X6_borrow I n7 o7) gL_borrow_X6_borrow rfl rfl rfl hd_X6_borrow ⟨(Nat.le_of_ble_eq_true rfl), (Nat.le_of_ble_eq_true rfl)⟩ ⟨(Nat.le_of_ble_eq_true rfl), (Nat.le_of_ble_eq_true rfl)⟩ rfl (Nat.le_of_ble_eq_true rfl) dL_borrow_5 (fun E hE9 => ?_) (fun q J hJ => ?_)
  · rcases hE9 with ⟨rfl, hc⟩ | ⟨rfl, hc⟩
    · refine ⟨[], [⟨0, 10, 17, 50⟩], ⟨0, 10, 13, 19⟩, rfl, fun z hz => (nomatch hz), by decide +kernel, by decide, by decide, q_c19, fun q9 => ?_⟩
      refine g_astore hX _ rfl dL_borrow_13 (Nat.le_of_ble_eq_true rfl) ?_
      refine g_iconst hX 1 dL_borrow_15 rfl ?_
      exact w_iret hX hE dL_borrow_16 (Nat.le_of_ble_eq_true rfl) (Nat.le_of_ble_eq_true rfl) ⟨I, g, rfl, by rw [hc]; rfl, fun h => absurd (hc.symm.trans h) (by decide), fun _ => rfl⟩
    · refine ⟨[⟨0, 10, 13, 19⟩], [], ⟨0, 10, 17, 50⟩, rfl, fun z hz => ?_, by decide +kernel, by decide, by decide, q_c50, fun q9 => ?_⟩
      · simp only [List.mem_cons, List.not_mem_nil, or_false] at hz
        subst hz
        exact ⟨by decide, xIO, by decide +kernel, q_c19, by decide⟩
      · refine g_astore hX _ rfl dL_borrow_17 (Nat.le_of_ble_eq_true rfl) ?_
        refine g_iconst hX 2 dL_borrow_19 rfl ?_
        exact w_iret hX hE dL_borrow_20 (Nat.le_of_ble_eq_true rfl) (Nat.le_of_ble_eq_true rfl) ⟨I, g, rfl, by rw [hc]; rfl, fun h => absurd (hc.symm.trans h) (by decide), fun _ => rfl⟩
  · have h0 : kbo I n7 o7 = 0 := hJ.1
    refine g_i2l hX dL_borrow_8 ?_
    refine w_last hX (w1 := [] ++ pw ad cL (kf dT ad J)) (w2 := []) dL_borrow_9 ?_
    refine g_goto (tgt := 21) hX dL_borrow_10 (by decide) ?_
    refine g_iconst hX 0 dL_borrow_21 rfl ?_
    exact w_iret hX hE dL_borrow_22 (Nat.le_of_ble_eq_true rfl) (Nat.le_of_ble_eq_true rfl) ⟨J, vp_updL g 0 q.toInt64, rfl, by rw [h0]; rfl, fun _ => ⟨q, hJ, rfl⟩, fun h => absurd h0 h⟩
abbrev rm_L_set : Room := { frames := 8, cells := 1, slots := 6, locals := 127 }
theorem hd_L_set : yL_set.cls ≠ "java/lang/invoke/MethodHandle" ∧ yL_set.cls ≠ "java/lang/invoke/VarHandle" ∧ (parseMethodDescriptor yL_set.desc).map (fun d => d.parameters.length) = some 4 := by decide +kernel
set_option maxRecDepth 100000 in
set_option maxHeartbeats 4000000 in
theorem k_L_set {D : va_G} {dT : Nat → ClassId} {ad : Nat → Nat} {o : Nat} {g : Nat → Int64} (I : Nat → Nat → Int32) (w7 n7 : Int32) : ∀ l8 : Launch, l8.stackTraces = false → WI l8 yL_set wsL_set rm_L_set D dT (WJ dT ad I o g) [.ref (ad 0), .int w7, .int n7, .ref o] 1 6 (WPJ dT ad o (kse w7 n7) I (fun x J => ∃ v, (fun q9 J => kse w7 n7 = 0 ∧ exI I w7 n7 = J ∧ exR I w7 = q9) v J ∧ cvI v = x)) := by
  intro l9 hl9
  refine wi_of hl9 (own := RL) (cc := cL_set) (maxL := 5) (hh := [(0, 10, 13, 21)]) [(0, .ref (ad 0)), (1, .int w7), (2, .int n7), (3, .ref o)] (by decide) rfl rfl rfl (Nat.le_of_ble_eq_true rfl) ?_
  intro X hX hE
  have q_c21 : Cond.classLink RL 21 "java/lang/IllegalArgumentException" ∈ wsL_set := by decide +kernel
  unfold WJ
  refine g_aload_n hX 3 rfl dL_set_0 rfl ?_
  refine g_iconst hX 0 dL_set_1 rfl ?_
  refine g_aload_n hX 0 rfl dL_set_2 rfl ?_
  refine g_iload_n hX 1 rfl dL_set_3 rfl ?_
  refine g_iload_n hX 2 rfl dL_set_4 rfl ?_
  refine w_callI hX hE (w1 := []) (w2 := [(o, eJ dT g)]) [.int w7, .int n7] (k_X6_set I w7 n7) gL_set_X6_set rfl rfl rfl hd_X6_set ⟨(Nat.le_of_ble_eq_true rfl), (Nat.le_of_ble_eq_true rfl)⟩ ⟨(Nat.le_of_ble_eq_true rfl), (Nat.le_of_ble_eq_true rfl)⟩ rfl (Nat.le_of_ble_eq_true rfl) dL_set_5 (fun E hE9 => ?_) (fun q J hJ => ?_)
  · obtain ⟨rfl, hc⟩ := hE9
    refine ⟨[], [], ⟨0, 10, 13, 21⟩, rfl, fun z hz => (nomatch hz), by decide +kernel, by decide, by decide, q_c21, fun q9 => ?_⟩
    refine g_astore hX _ rfl dL_set_13 (Nat.le_of_ble_eq_true rfl) ?_
    refine g_iconst hX 1 dL_set_15 rfl ?_
    exact w_iret hX hE dL_set_16 (Nat.le_of_ble_eq_true rfl) (Nat.le_of_ble_eq_true rfl) ⟨I, g, rfl, by rw [hc]; rfl, fun h => absurd (hc.symm.trans h) (by decide), fun _ => rfl⟩
  · have h0 : kse w7 n7 = 0 := hJ.1
    refine g_i2l hX dL_set_8 ?_
    refine w_last hX (w1 := [] ++ pw ad cL (kf dT ad J)) (w2 := []) dL_set_9 ?_
    refine g_goto (tgt := 17) hX dL_set_10 (by decide) ?_
    refine g_iconst hX 0 dL_set_17 rfl ?_
    exact w_iret hX hE dL_set_18 (Nat.le_of_ble_eq_true rfl) (Nat.le_of_ble_eq_true rfl) ⟨J, vp_updL g 0 q.toInt64, rfl, by rw [h0]; rfl, fun _ => ⟨q, hJ, rfl⟩, fun h => absurd h0 h⟩
abbrev rm_L_maker : Room := { frames := 7, cells := 1, slots := 6, locals := 104 }
theorem hd_L_maker : yL_maker.cls ≠ "java/lang/invoke/MethodHandle" ∧ yL_maker.cls ≠ "java/lang/invoke/VarHandle" ∧ (parseMethodDescriptor yL_maker.desc).map (fun d => d.parameters.length) = some 3 := by decide +kernel
set_option maxRecDepth 100000 in
set_option maxHeartbeats 4000000 in
theorem k_L_maker {D : va_G} {dT : Nat → ClassId} {ad : Nat → Nat} {o : Nat} {g : Nat → Int64} (I : Nat → Nat → Int32) (hmk : I 15 4 = 97 ∨ I 15 4 = 98 ∨ I 15 4 = 99) (w7 : Int32) : ∀ l8 : Launch, l8.stackTraces = false → WI l8 yL_maker wsL_maker rm_L_maker D dT (WJ dT ad I o g) [.ref (ad 0), .int w7, .ref o] 1 6 (WPJ dT ad o (kmk w7) I (fun x J => ∃ v, (fun q9 J => kmk w7 = 0 ∧ up2 I 15 4 w7 = J ∧ I 15 4 = q9) v J ∧ cvI v = x)) := by
  intro l9 hl9
  refine wi_of hl9 (own := RL) (cc := cL_maker) (maxL := 4) (hh := [(0, 9, 12, 21)]) [(0, .ref (ad 0)), (1, .int w7), (2, .ref o)] (by decide) rfl rfl rfl (Nat.le_of_ble_eq_true rfl) ?_
  intro X hX hE
  have q_c21 : Cond.classLink RL 21 "java/lang/IllegalArgumentException" ∈ wsL_maker := by decide +kernel
  unfold WJ
  refine g_aload_n hX 2 rfl dL_maker_0 rfl ?_
  refine g_iconst hX 0 dL_maker_1 rfl ?_
  refine g_aload_n hX 0 rfl dL_maker_2 rfl ?_
  refine g_iload_n hX 1 rfl dL_maker_3 rfl ?_
  refine w_callI hX hE (w1 := []) (w2 := [(o, eJ dT g)]) [.int w7] (k_X6_maker I hmk w7) gL_maker_X6_maker rfl rfl rfl hd_X6_maker ⟨(Nat.le_of_ble_eq_true rfl), (Nat.le_of_ble_eq_true rfl)⟩ ⟨(Nat.le_of_ble_eq_true rfl), (Nat.le_of_ble_eq_true rfl)⟩ rfl (Nat.le_of_ble_eq_true rfl) dL_maker_4 (fun E hE9 => ?_) (fun q J hJ => ?_)
  · obtain ⟨rfl, hc⟩ := hE9
    refine ⟨[], [], ⟨0, 9, 12, 21⟩, rfl, fun z hz => (nomatch hz), by decide +kernel, by decide, by decide, q_c21, fun q9 => ?_⟩
    refine g_astore_n hX _ rfl dL_maker_12 rfl (Nat.le_of_ble_eq_true rfl) ?_
    refine g_iconst hX 1 dL_maker_13 rfl ?_
    exact w_iret hX hE dL_maker_14 (Nat.le_of_ble_eq_true rfl) (Nat.le_of_ble_eq_true rfl) ⟨I, g, rfl, by rw [hc]; rfl, fun h => absurd (hc.symm.trans h) (by decide), fun _ => rfl⟩
  · have h0 : kmk w7 = 0 := hJ.1
    refine g_i2l hX dL_maker_7 ?_
    refine w_last hX (w1 := [] ++ pw ad cL (kf dT ad J)) (w2 := []) dL_maker_8 ?_
    refine g_goto (tgt := 15) hX dL_maker_9 (by decide) ?_
    refine g_iconst hX 0 dL_maker_15 rfl ?_
    exact w_iret hX hE dL_maker_16 (Nat.le_of_ble_eq_true rfl) (Nat.le_of_ble_eq_true rfl) ⟨J, vp_updL g 0 q.toInt64, rfl, by rw [h0]; rfl, fun _ => ⟨q, hJ, rfl⟩, fun h => absurd h0 h⟩
abbrev rm_L_load : Room := { frames := 8, cells := 1, slots := 6, locals := 125 }
theorem hd_L_load : yL_load.cls ≠ "java/lang/invoke/MethodHandle" ∧ yL_load.cls ≠ "java/lang/invoke/VarHandle" ∧ (parseMethodDescriptor yL_load.desc).map (fun d => d.parameters.length) = some 3 := by decide +kernel
set_option maxRecDepth 100000 in
set_option maxHeartbeats 4000000 in
theorem k_L_load {D : va_G} {dT : Nat → ClassId} {ad : Nat → Nat} {o : Nat} {g : Nat → Int64} (I : Nat → Nat → Int32) (r7 : Int32) : ∀ l8 : Launch, l8.stackTraces = false → WI l8 yL_load wsL_load rm_L_load D dT (WJ dT ad I o g) [.ref (ad 0), .int r7, .ref o] 1 6 (WPJ dT ad o (kr1 I r7) I (fun x J => ∃ v, (fun q9 J => kr1 I r7 = 0 ∧ bgP I r7.toNatClampNeg = J ∧ crw (bgP I r7.toNatClampNeg (8 + r7.toNatClampNeg)) 200 = q9) v J ∧ cvI v = x)) := by
  intro l9 hl9
  refine wi_of hl9 (own := RL) (cc := cL_load) (maxL := 4) (hh := [(0, 9, 12, 19)]) [(0, .ref (ad 0)), (1, .int r7), (2, .ref o)] (by decide) rfl rfl rfl (Nat.le_of_ble_eq_true rfl) ?_
  intro X hX hE
  have q_c19 : Cond.classLink RL 19 "java/lang/IndexOutOfBoundsException" ∈ wsL_load := by decide +kernel
  unfold WJ
  refine g_aload_n hX 2 rfl dL_load_0 rfl ?_
  refine g_iconst hX 0 dL_load_1 rfl ?_
  refine g_aload_n hX 0 rfl dL_load_2 rfl ?_
  refine g_iload_n hX 1 rfl dL_load_3 rfl ?_
  refine w_callI hX hE (w1 := []) (w2 := [(o, eJ dT g)]) [.int r7] (k_X6_load I r7) gL_load_X6_load rfl rfl rfl hd_X6_load ⟨(Nat.le_of_ble_eq_true rfl), (Nat.le_of_ble_eq_true rfl)⟩ ⟨(Nat.le_of_ble_eq_true rfl), (Nat.le_of_ble_eq_true rfl)⟩ rfl (Nat.le_of_ble_eq_true rfl) dL_load_4 (fun E hE9 => ?_) (fun q J hJ => ?_)
  · obtain ⟨rfl, hc⟩ := hE9
    refine ⟨[], [], ⟨0, 9, 12, 19⟩, rfl, fun z hz => (nomatch hz), by decide +kernel, by decide, by decide, q_c19, fun q9 => ?_⟩
    refine g_astore_n hX _ rfl dL_load_12 rfl (Nat.le_of_ble_eq_true rfl) ?_
    refine g_iconst hX 1 dL_load_13 rfl ?_
    exact w_iret hX hE dL_load_14 (Nat.le_of_ble_eq_true rfl) (Nat.le_of_ble_eq_true rfl) ⟨I, g, rfl, by rw [hc]; rfl, fun h => absurd (hc.symm.trans h) (by decide), fun _ => rfl⟩
  · have h0 : kr1 I r7 = 0 := hJ.1
    refine g_i2l hX dL_load_7 ?_
    refine w_last hX (w1 := [] ++ pw ad cL (kf dT ad J)) (w2 := []) dL_load_8 ?_
    refine g_goto (tgt := 15) hX dL_load_9 (by decide) ?_
    refine g_iconst hX 0 dL_load_15 rfl ?_
    exact w_iret hX hE dL_load_16 (Nat.le_of_ble_eq_true rfl) (Nat.le_of_ble_eq_true rfl) ⟨J, vp_updL g 0 q.toInt64, rfl, by rw [h0]; rfl, fun _ => ⟨q, hJ, rfl⟩, fun h => absurd h0 h⟩
abbrev rm_L_aside : Room := { frames := 8, cells := 2, slots := 12, locals := 126 }
theorem hd_L_aside : yL_aside.cls ≠ "java/lang/invoke/MethodHandle" ∧ yL_aside.cls ≠ "java/lang/invoke/VarHandle" ∧ (parseMethodDescriptor yL_aside.desc).map (fun d => d.parameters.length) = some 3 := by decide +kernel
set_option maxRecDepth 100000 in
set_option maxHeartbeats 4000000 in
theorem k_L_aside {D : va_G} {dT : Nat → ClassId} {ad : Nat → Nat} {o : Nat} {g : Nat → Int64} (I : Nat → Nat → Int32) (t7 : Int32) : ∀ l8 : Launch, l8.stackTraces = false → WI l8 yL_aside wsL_aside rm_L_aside D dT (WJ dT ad I o g) [.ref (ad 0), .int t7, .ref o] 2 12 (WPJ dT ad o (kas I t7) I (fun x J => ∃ v, (fun q9 J => kas I t7 = 0 ∧ up2 I 3 7 t7 = J ∧ I 3 7 = q9) v J ∧ cvI v = x)) := by
  intro l9 hl9
  refine wi_of hl9 (own := RL) (cc := cL_aside) (maxL := 4) (hh := [(0, 9, 12, 13), (0, 9, 15, 21)]) [(0, .ref (ad 0)), (1, .int t7), (2, .ref o)] (by decide) rfl rfl rfl (Nat.le_of_ble_eq_true rfl) ?_
  intro X hX hE
  have q_c13 : Cond.classLink RL 13 "java/lang/IllegalStateException" ∈ wsL_aside := by decide +kernel
  have q_c21 : Cond.classLink RL 21 "java/lang/IllegalArgumentException" ∈ wsL_aside := by decide +kernel
  unfold WJ
  refine g_aload_n hX 2 rfl dL_aside_0 rfl ?_
  refine g_iconst hX 0 dL_aside_1 rfl ?_
  refine g_aload_n hX 0 rfl dL_aside_2 rfl ?_
  refine g_iload_n hX 1 rfl dL_aside_3 rfl ?_
  refine w_callI hX hE (w1 := []) (w2 := [(o, eJ dT g)]) [.int t7] (k_X6_aside I t7) gL_aside_X6_aside rfl rfl rfl hd_X6_aside ⟨(Nat.le_of_ble_eq_true rfl), (Nat.le_of_ble_eq_true rfl)⟩ ⟨(Nat.le_of_ble_eq_true rfl), (Nat.le_of_ble_eq_true rfl)⟩ rfl (Nat.le_of_ble_eq_true rfl) dL_aside_4 (fun E hE9 => ?_) (fun q J hJ => ?_)
  · rcases hE9 with ⟨rfl, hc⟩ | ⟨rfl, hc⟩
    · refine ⟨[], [⟨0, 9, 15, 21⟩], ⟨0, 9, 12, 13⟩, rfl, fun z hz => (nomatch hz), by decide +kernel, by decide, by decide, q_c13, fun q9 => ?_⟩
      refine g_astore_n hX _ rfl dL_aside_12 rfl (Nat.le_of_ble_eq_true rfl) ?_
      refine g_iconst hX 1 dL_aside_13 rfl ?_
      exact w_iret hX hE dL_aside_14 (Nat.le_of_ble_eq_true rfl) (Nat.le_of_ble_eq_true rfl) ⟨I, g, rfl, by rw [hc]; rfl, fun h => absurd (hc.symm.trans h) (by decide), fun _ => rfl⟩
    · refine ⟨[⟨0, 9, 12, 13⟩], [], ⟨0, 9, 15, 21⟩, rfl, fun z hz => ?_, by decide +kernel, by decide, by decide, q_c21, fun q9 => ?_⟩
      · simp only [List.mem_cons, List.not_mem_nil, or_false] at hz
        subst hz
        exact ⟨by decide, xIS, by decide +kernel, q_c13, by decide⟩
      · refine g_astore_n hX _ rfl dL_aside_15 rfl (Nat.le_of_ble_eq_true rfl) ?_
        refine g_iconst hX 2 dL_aside_16 rfl ?_
        exact w_iret hX hE dL_aside_17 (Nat.le_of_ble_eq_true rfl) (Nat.le_of_ble_eq_true rfl) ⟨I, g, rfl, by rw [hc]; rfl, fun h => absurd (hc.symm.trans h) (by decide), fun _ => rfl⟩
  · have h0 : kas I t7 = 0 := hJ.1
    refine g_i2l hX dL_aside_7 ?_
    refine w_last hX (w1 := [] ++ pw ad cL (kf dT ad J)) (w2 := []) dL_aside_8 ?_
    refine g_goto (tgt := 18) hX dL_aside_9 (by decide) ?_
    refine g_iconst hX 0 dL_aside_18 rfl ?_
    exact w_iret hX hE dL_aside_19 (Nat.le_of_ble_eq_true rfl) (Nat.le_of_ble_eq_true rfl) ⟨J, vp_updL g 0 q.toInt64, rfl, by rw [h0]; rfl, fun _ => ⟨q, hJ, rfl⟩, fun h => absurd h0 h⟩
abbrev rm_L_tick : Room := { frames := 8, cells := 2, slots := 12, locals := 154 }
theorem hd_L_tick : yL_tick.cls ≠ "java/lang/invoke/MethodHandle" ∧ yL_tick.cls ≠ "java/lang/invoke/VarHandle" ∧ (parseMethodDescriptor yL_tick.desc).map (fun d => d.parameters.length) = some 3 := by decide +kernel
set_option maxRecDepth 100000 in
set_option maxHeartbeats 4000000 in
theorem k_L_tick {D : va_G} {dT : Nat → ClassId} {ad : Nat → Nat} {o : Nat} {g : Nat → Int64} (I : Nat → Nat → Int32) (hpv : I 99 0 = -1 ∨ ∃ i, i < 4 ∧ I 99 0 = nI i) (a : Nat) (ha : I 3 4 = nI a) (ha2 : a ≤ 200) (hL : LI I) (hb : I 3 10 = 0 ∨ I 3 10 = 1) (t7 : Int32) : ∀ l8 : Launch, l8.stackTraces = false → WI l8 yL_tick wsL_tick rm_L_tick D dT (WJ dT ad I o g) [.ref (ad 0), .int t7, .ref o] 2 12 (WPJ dT ad o (kti I t7) I (fun x J => ∃ v, (fun q J => kti I t7 = 0 ∧ ∃ i k, i < 4 ∧ I 99 0 = nI i ∧ k ≤ t7.toNatClampNeg ∧ nI k = q ∧ (∀ j, j < k → ¬ anN I i a j = 0) ∧ (k = t7.toNatClampNeg ∨ anN I i a k = 0) ∧ eplN (prI I i k) (anN I i a k) = J) v J ∧ cvI v = x)) := by
  intro l9 hl9
  refine wi_of hl9 (own := RL) (cc := cL_tick) (maxL := 4) (hh := [(0, 9, 12, 13), (0, 9, 15, 21)]) [(0, .ref (ad 0)), (1, .int t7), (2, .ref o)] (by decide) rfl rfl rfl (Nat.le_of_ble_eq_true rfl) ?_
  intro X hX hE
  have q_c13 : Cond.classLink RL 13 "java/lang/IllegalStateException" ∈ wsL_tick := by decide +kernel
  have q_c21 : Cond.classLink RL 21 "java/lang/IllegalArgumentException" ∈ wsL_tick := by decide +kernel
  unfold WJ
  refine g_aload_n hX 2 rfl dL_tick_0 rfl ?_
  refine g_iconst hX 0 dL_tick_1 rfl ?_
  refine g_aload_n hX 0 rfl dL_tick_2 rfl ?_
  refine g_iload_n hX 1 rfl dL_tick_3 rfl ?_
  refine w_callI hX hE (w1 := []) (w2 := [(o, eJ dT g)]) [.int t7] (k_X6_tick I hpv a ha ha2 hL hb t7) gL_tick_X6_tick rfl rfl rfl hd_X6_tick ⟨(Nat.le_of_ble_eq_true rfl), (Nat.le_of_ble_eq_true rfl)⟩ ⟨(Nat.le_of_ble_eq_true rfl), (Nat.le_of_ble_eq_true rfl)⟩ rfl (Nat.le_of_ble_eq_true rfl) dL_tick_4 (fun E hE9 => ?_) (fun q J hJ => ?_)
  · rcases hE9 with ⟨rfl, hc⟩ | ⟨rfl, hc⟩
    · refine ⟨[], [⟨0, 9, 15, 21⟩], ⟨0, 9, 12, 13⟩, rfl, fun z hz => (nomatch hz), by decide +kernel, by decide, by decide, q_c13, fun q9 => ?_⟩
      refine g_astore_n hX _ rfl dL_tick_12 rfl (Nat.le_of_ble_eq_true rfl) ?_
      refine g_iconst hX 1 dL_tick_13 rfl ?_
      exact w_iret hX hE dL_tick_14 (Nat.le_of_ble_eq_true rfl) (Nat.le_of_ble_eq_true rfl) ⟨I, g, rfl, by rw [hc]; rfl, fun h => absurd (hc.symm.trans h) (by decide), fun _ => rfl⟩
    · refine ⟨[⟨0, 9, 12, 13⟩], [], ⟨0, 9, 15, 21⟩, rfl, fun z hz => ?_, by decide +kernel, by decide, by decide, q_c21, fun q9 => ?_⟩
      · simp only [List.mem_cons, List.not_mem_nil, or_false] at hz
        subst hz
        exact ⟨by decide, xIS, by decide +kernel, q_c13, by decide⟩
      · refine g_astore_n hX _ rfl dL_tick_15 rfl (Nat.le_of_ble_eq_true rfl) ?_
        refine g_iconst hX 2 dL_tick_16 rfl ?_
        exact w_iret hX hE dL_tick_17 (Nat.le_of_ble_eq_true rfl) (Nat.le_of_ble_eq_true rfl) ⟨I, g, rfl, by rw [hc]; rfl, fun h => absurd (hc.symm.trans h) (by decide), fun _ => rfl⟩
  · have h0 : kti I t7 = 0 := hJ.1
    refine g_i2l hX dL_tick_7 ?_
    refine w_last hX (w1 := [] ++ pw ad cL (kf dT ad J)) (w2 := []) dL_tick_8 ?_
    refine g_goto (tgt := 18) hX dL_tick_9 (by decide) ?_
    refine g_iconst hX 0 dL_tick_18 rfl ?_
    exact w_iret hX hE dL_tick_19 (Nat.le_of_ble_eq_true rfl) (Nat.le_of_ble_eq_true rfl) ⟨J, vp_updL g 0 q.toInt64, rfl, by rw [h0]; rfl, fun _ => ⟨q, hJ, rfl⟩, fun h => absurd h0 h⟩
abbrev rm_L_row : Room := { frames := 8, cells := 1, slots := 6, locals := 122 }
theorem hd_L_row : yL_row.cls ≠ "java/lang/invoke/MethodHandle" ∧ yL_row.cls ≠ "java/lang/invoke/VarHandle" ∧ (parseMethodDescriptor yL_row.desc).map (fun d => d.parameters.length) = some 2 := by decide +kernel
set_option maxRecDepth 100000 in
set_option maxHeartbeats 4000000 in
theorem k_L_row {D : va_G} {dT : Nat → ClassId} {ad : Nat → Nat} {o : Nat} {g : Nat → Int64} (I : Nat → Nat → Int32) : ∀ l8 : Launch, l8.stackTraces = false → WI l8 yL_row wsL_row rm_L_row D dT (WJ dT ad I o g) [.ref (ad 0), .ref o] 1 6 (WPJ dT ad o (kpl I) I (fun x J => ∃ v, (fun q9 J => kpl I = 0 ∧ I = J ∧ I 3 4 = q9) v J ∧ cvI v = x)) := by
  intro l9 hl9
  refine wi_of hl9 (own := RL) (cc := cL_row) (maxL := 3) (hh := [(0, 8, 11, 13)]) [(0, .ref (ad 0)), (1, .ref o)] (by decide) rfl rfl rfl (Nat.le_of_ble_eq_true rfl) ?_
  intro X hX hE
  have q_c13 : Cond.classLink RL 13 "java/lang/IllegalStateException" ∈ wsL_row := by decide +kernel
  unfold WJ
  refine g_aload_n hX 1 rfl dL_row_0 rfl ?_
  refine g_iconst hX 0 dL_row_1 rfl ?_
  refine g_aload_n hX 0 rfl dL_row_2 rfl ?_
  refine w_callI hX hE (w1 := []) (w2 := [(o, eJ dT g)]) [] (k_X6_row I) gL_row_X6_row rfl rfl rfl hd_X6_row ⟨(Nat.le_of_ble_eq_true rfl), (Nat.le_of_ble_eq_true rfl)⟩ ⟨(Nat.le_of_ble_eq_true rfl), (Nat.le_of_ble_eq_true rfl)⟩ rfl (Nat.le_of_ble_eq_true rfl) dL_row_3 (fun E hE9 => ?_) (fun q J hJ => ?_)
  · obtain ⟨rfl, hc⟩ := hE9
    refine ⟨[], [], ⟨0, 8, 11, 13⟩, rfl, fun z hz => (nomatch hz), by decide +kernel, by decide, by decide, q_c13, fun q9 => ?_⟩
    refine g_astore_n hX _ rfl dL_row_11 rfl (Nat.le_of_ble_eq_true rfl) ?_
    refine g_iconst hX 1 dL_row_12 rfl ?_
    exact w_iret hX hE dL_row_13 (Nat.le_of_ble_eq_true rfl) (Nat.le_of_ble_eq_true rfl) ⟨I, g, rfl, by rw [hc]; rfl, fun h => absurd (hc.symm.trans h) (by decide), fun _ => rfl⟩
  · have h0 : kpl I = 0 := hJ.1
    refine g_i2l hX dL_row_6 ?_
    refine w_last hX (w1 := [] ++ pw ad cL (kf dT ad J)) (w2 := []) dL_row_7 ?_
    refine g_goto (tgt := 14) hX dL_row_8 (by decide) ?_
    refine g_iconst hX 0 dL_row_14 rfl ?_
    exact w_iret hX hE dL_row_15 (Nat.le_of_ble_eq_true rfl) (Nat.le_of_ble_eq_true rfl) ⟨J, vp_updL g 0 q.toInt64, rfl, by rw [h0]; rfl, fun _ => ⟨q, hJ, rfl⟩, fun h => absurd h0 h⟩
abbrev rm_L_suction : Room := { frames := 8, cells := 1, slots := 6, locals := 122 }
theorem hd_L_suction : yL_suction.cls ≠ "java/lang/invoke/MethodHandle" ∧ yL_suction.cls ≠ "java/lang/invoke/VarHandle" ∧ (parseMethodDescriptor yL_suction.desc).map (fun d => d.parameters.length) = some 2 := by decide +kernel
set_option maxRecDepth 100000 in
set_option maxHeartbeats 4000000 in
theorem k_L_suction {D : va_G} {dT : Nat → ClassId} {ad : Nat → Nat} {o : Nat} {g : Nat → Int64} (I : Nat → Nat → Int32) : ∀ l8 : Launch, l8.stackTraces = false → WI l8 yL_suction wsL_suction rm_L_suction D dT (WJ dT ad I o g) [.ref (ad 0), .ref o] 1 6 (WPJ dT ad o (kpl I) I (fun x J => ∃ v, (fun q9 J => kpl I = 0 ∧ I = J ∧ I 3 5 = q9) v J ∧ cvI v = x)) := by
  intro l9 hl9
  refine wi_of hl9 (own := RL) (cc := cL_suction) (maxL := 3) (hh := [(0, 8, 11, 13)]) [(0, .ref (ad 0)), (1, .ref o)] (by decide) rfl rfl rfl (Nat.le_of_ble_eq_true rfl) ?_
  intro X hX hE
  have q_c13 : Cond.classLink RL 13 "java/lang/IllegalStateException" ∈ wsL_suction := by decide +kernel
  unfold WJ
  refine g_aload_n hX 1 rfl dL_suction_0 rfl ?_
  refine g_iconst hX 0 dL_suction_1 rfl ?_
  refine g_aload_n hX 0 rfl dL_suction_2 rfl ?_
  refine w_callI hX hE (w1 := []) (w2 := [(o, eJ dT g)]) [] (k_X6_suction I) gL_suction_X6_suction rfl rfl rfl hd_X6_suction ⟨(Nat.le_of_ble_eq_true rfl), (Nat.le_of_ble_eq_true rfl)⟩ ⟨(Nat.le_of_ble_eq_true rfl), (Nat.le_of_ble_eq_true rfl)⟩ rfl (Nat.le_of_ble_eq_true rfl) dL_suction_3 (fun E hE9 => ?_) (fun q J hJ => ?_)
  · obtain ⟨rfl, hc⟩ := hE9
    refine ⟨[], [], ⟨0, 8, 11, 13⟩, rfl, fun z hz => (nomatch hz), by decide +kernel, by decide, by decide, q_c13, fun q9 => ?_⟩
    refine g_astore_n hX _ rfl dL_suction_11 rfl (Nat.le_of_ble_eq_true rfl) ?_
    refine g_iconst hX 1 dL_suction_12 rfl ?_
    exact w_iret hX hE dL_suction_13 (Nat.le_of_ble_eq_true rfl) (Nat.le_of_ble_eq_true rfl) ⟨I, g, rfl, by rw [hc]; rfl, fun h => absurd (hc.symm.trans h) (by decide), fun _ => rfl⟩
  · have h0 : kpl I = 0 := hJ.1
    refine g_i2l hX dL_suction_6 ?_
    refine w_last hX (w1 := [] ++ pw ad cL (kf dT ad J)) (w2 := []) dL_suction_7 ?_
    refine g_goto (tgt := 14) hX dL_suction_8 (by decide) ?_
    refine g_iconst hX 0 dL_suction_14 rfl ?_
    exact w_iret hX hE dL_suction_15 (Nat.le_of_ble_eq_true rfl) (Nat.le_of_ble_eq_true rfl) ⟨J, vp_updL g 0 q.toInt64, rfl, by rw [h0]; rfl, fun _ => ⟨q, hJ, rfl⟩, fun h => absurd h0 h⟩
abbrev rm_L_level : Room := { frames := 8, cells := 1, slots := 6, locals := 122 }
theorem hd_L_level : yL_level.cls ≠ "java/lang/invoke/MethodHandle" ∧ yL_level.cls ≠ "java/lang/invoke/VarHandle" ∧ (parseMethodDescriptor yL_level.desc).map (fun d => d.parameters.length) = some 2 := by decide +kernel
set_option maxRecDepth 100000 in
set_option maxHeartbeats 4000000 in
theorem k_L_level {D : va_G} {dT : Nat → ClassId} {ad : Nat → Nat} {o : Nat} {g : Nat → Int64} (I : Nat → Nat → Int32) : ∀ l8 : Launch, l8.stackTraces = false → WI l8 yL_level wsL_level rm_L_level D dT (WJ dT ad I o g) [.ref (ad 0), .ref o] 1 6 (WPJ dT ad o (kpl I) I (fun x J => ∃ v, (fun q9 J => kpl I = 0 ∧ I = J ∧ I 3 6 = q9) v J ∧ cvI v = x)) := by
  intro l9 hl9
  refine wi_of hl9 (own := RL) (cc := cL_level) (maxL := 3) (hh := [(0, 8, 11, 13)]) [(0, .ref (ad 0)), (1, .ref o)] (by decide) rfl rfl rfl (Nat.le_of_ble_eq_true rfl) ?_
  intro X hX hE
  have q_c13 : Cond.classLink RL 13 "java/lang/IllegalStateException" ∈ wsL_level := by decide +kernel
  unfold WJ
  refine g_aload_n hX 1 rfl dL_level_0 rfl ?_
  refine g_iconst hX 0 dL_level_1 rfl ?_
  refine g_aload_n hX 0 rfl dL_level_2 rfl ?_
  refine w_callI hX hE (w1 := []) (w2 := [(o, eJ dT g)]) [] (k_X6_level I) gL_level_X6_level rfl rfl rfl hd_X6_level ⟨(Nat.le_of_ble_eq_true rfl), (Nat.le_of_ble_eq_true rfl)⟩ ⟨(Nat.le_of_ble_eq_true rfl), (Nat.le_of_ble_eq_true rfl)⟩ rfl (Nat.le_of_ble_eq_true rfl) dL_level_3 (fun E hE9 => ?_) (fun q J hJ => ?_)
  · obtain ⟨rfl, hc⟩ := hE9
    refine ⟨[], [], ⟨0, 8, 11, 13⟩, rfl, fun z hz => (nomatch hz), by decide +kernel, by decide, by decide, q_c13, fun q9 => ?_⟩
    refine g_astore_n hX _ rfl dL_level_11 rfl (Nat.le_of_ble_eq_true rfl) ?_
    refine g_iconst hX 1 dL_level_12 rfl ?_
    exact w_iret hX hE dL_level_13 (Nat.le_of_ble_eq_true rfl) (Nat.le_of_ble_eq_true rfl) ⟨I, g, rfl, by rw [hc]; rfl, fun h => absurd (hc.symm.trans h) (by decide), fun _ => rfl⟩
  · have h0 : kpl I = 0 := hJ.1
    refine g_i2l hX dL_level_6 ?_
    refine w_last hX (w1 := [] ++ pw ad cL (kf dT ad J)) (w2 := []) dL_level_7 ?_
    refine g_goto (tgt := 14) hX dL_level_8 (by decide) ?_
    refine g_iconst hX 0 dL_level_14 rfl ?_
    exact w_iret hX hE dL_level_15 (Nat.le_of_ble_eq_true rfl) (Nat.le_of_ble_eq_true rfl) ⟨J, vp_updL g 0 q.toInt64, rfl, by rw [h0]; rfl, fun _ => ⟨q, hJ, rfl⟩, fun h => absurd h0 h⟩
abbrev rm_L_isOpen : Room := { frames := 8, cells := 2, slots := 12, locals := 124 }
theorem hd_L_isOpen : yL_isOpen.cls ≠ "java/lang/invoke/MethodHandle" ∧ yL_isOpen.cls ≠ "java/lang/invoke/VarHandle" ∧ (parseMethodDescriptor yL_isOpen.desc).map (fun d => d.parameters.length) = some 3 := by decide +kernel
set_option maxRecDepth 100000 in
set_option maxHeartbeats 4000000 in
theorem k_L_isOpen {D : va_G} {dT : Nat → ClassId} {ad : Nat → Nat} {o : Nat} {g : Nat → Int64} (I : Nat → Nat → Int32) (hv01 : ∀ v, v < 12 → I (24 + v) 4 = 0 ∨ I (24 + v) 4 = 1) (n7 : Int32) : ∀ l8 : Launch, l8.stackTraces = false → WI l8 yL_isOpen wsL_isOpen rm_L_isOpen D dT (WJ dT ad I o g) [.ref (ad 0), .int n7, .ref o] 2 12 (WPJ dT ad o (kop I n7) I (fun x J => ∃ v, (fun q9 J => kop I n7 = 0 ∧ I = J ∧ I (24 + n7.toNatClampNeg) 4 = q9) v J ∧ cvB v = x)) := by
  intro l9 hl9
  refine wi_of hl9 (own := RL) (cc := cL_isOpen) (maxL := 4) (hh := [(0, 16, 19, 13), (0, 16, 22, 19)]) [(0, .ref (ad 0)), (1, .int n7), (2, .ref o)] (by decide) rfl rfl rfl (Nat.le_of_ble_eq_true rfl) ?_
  intro X hX hE
  have q_c13 : Cond.classLink RL 13 "java/lang/IllegalStateException" ∈ wsL_isOpen := by decide +kernel
  have q_c19 : Cond.classLink RL 19 "java/lang/IndexOutOfBoundsException" ∈ wsL_isOpen := by decide +kernel
  unfold WJ
  refine g_aload_n hX 2 rfl dL_isOpen_0 rfl ?_
  refine g_iconst hX 0 dL_isOpen_1 rfl ?_
  refine g_aload_n hX 0 rfl dL_isOpen_2 rfl ?_
  refine g_iload_n hX 1 rfl dL_isOpen_3 rfl ?_
  refine w_callI hX hE (w1 := []) (w2 := [(o, eJ dT g)]) [.int n7] (k_X6_isOpen I hv01 n7) gL_isOpen_X6_isOpen rfl rfl rfl hd_X6_isOpen ⟨(Nat.le_of_ble_eq_true rfl), (Nat.le_of_ble_eq_true rfl)⟩ ⟨(Nat.le_of_ble_eq_true rfl), (Nat.le_of_ble_eq_true rfl)⟩ rfl (Nat.le_of_ble_eq_true rfl) dL_isOpen_4 (fun E hE9 => ?_) (fun q J hJ => ?_)
  · rcases hE9 with ⟨rfl, hc⟩ | ⟨rfl, hc⟩
    · refine ⟨[], [⟨0, 16, 22, 19⟩], ⟨0, 16, 19, 13⟩, rfl, fun z hz => (nomatch hz), by decide +kernel, by decide, by decide, q_c13, fun q9 => ?_⟩
      refine g_astore_n hX _ rfl dL_isOpen_19 rfl (Nat.le_of_ble_eq_true rfl) ?_
      refine g_iconst hX 1 dL_isOpen_20 rfl ?_
      exact w_iret hX hE dL_isOpen_21 (Nat.le_of_ble_eq_true rfl) (Nat.le_of_ble_eq_true rfl) ⟨I, g, rfl, by rw [hc]; rfl, fun h => absurd (hc.symm.trans h) (by decide), fun _ => rfl⟩
    · refine ⟨[⟨0, 16, 19, 13⟩], [], ⟨0, 16, 22, 19⟩, rfl, fun z hz => ?_, by decide +kernel, by decide, by decide, q_c19, fun q9 => ?_⟩
      · simp only [List.mem_cons, List.not_mem_nil, or_false] at hz
        subst hz
        exact ⟨by decide, xIS, by decide +kernel, q_c13, by decide⟩
      · refine g_astore_n hX _ rfl dL_isOpen_22 rfl (Nat.le_of_ble_eq_true rfl) ?_
        refine g_iconst hX 2 dL_isOpen_23 rfl ?_
        exact w_iret hX hE dL_isOpen_24 (Nat.le_of_ble_eq_true rfl) (Nat.le_of_ble_eq_true rfl) ⟨I, g, rfl, by rw [hc]; rfl, fun h => absurd (hc.symm.trans h) (by decide), fun _ => rfl⟩
  · have h0 : kop I n7 = 0 := hJ.1
    refine g_if_eq (tgt := 14) hX dL_isOpen_7 (by decide) (fun c1 => ?_) (fun c1 => ?_)
    · refine g_lconst hX 0 dL_isOpen_14 rfl ?_
      refine w_last hX (w1 := [] ++ pw ad cL (kf dT ad J)) (w2 := []) dL_isOpen_15 ?_
      refine g_goto (tgt := 25) hX dL_isOpen_16 (by decide) ?_
      refine g_iconst hX 0 dL_isOpen_25 rfl ?_
      exact w_iret hX hE dL_isOpen_26 (Nat.le_of_ble_eq_true rfl) (Nat.le_of_ble_eq_true rfl) ⟨J, vp_updL g 0 0, rfl, by rw [h0]; rfl, fun _ => ⟨q, hJ, by rw [c1]; rfl⟩, fun h => absurd h0 h⟩
    · refine g_lconst hX 1 dL_isOpen_10 rfl ?_
      refine g_goto (tgt := 15) hX dL_isOpen_11 (by decide) ?_
      refine w_last hX (w1 := [] ++ pw ad cL (kf dT ad J)) (w2 := []) dL_isOpen_15 ?_
      refine g_goto (tgt := 25) hX dL_isOpen_16 (by decide) ?_
      refine g_iconst hX 0 dL_isOpen_25 rfl ?_
      exact w_iret hX hE dL_isOpen_26 (Nat.le_of_ble_eq_true rfl) (Nat.le_of_ble_eq_true rfl) ⟨J, vp_updL g 0 1, rfl, by rw [h0]; rfl, fun _ => ⟨q, hJ, if_neg c1⟩, fun h => absurd h0 h⟩
abbrev rm_L_isHeard : Room := { frames := 8, cells := 2, slots := 12, locals := 124 }
theorem hd_L_isHeard : yL_isHeard.cls ≠ "java/lang/invoke/MethodHandle" ∧ yL_isHeard.cls ≠ "java/lang/invoke/VarHandle" ∧ (parseMethodDescriptor yL_isHeard.desc).map (fun d => d.parameters.length) = some 3 := by decide +kernel
set_option maxRecDepth 100000 in
set_option maxHeartbeats 4000000 in
theorem k_L_isHeard {D : va_G} {dT : Nat → ClassId} {ad : Nat → Nat} {o : Nat} {g : Nat → Int64} (I : Nat → Nat → Int32) (n7 : Int32) : ∀ l8 : Launch, l8.stackTraces = false → WI l8 yL_isHeard wsL_isHeard rm_L_isHeard D dT (WJ dT ad I o g) [.ref (ad 0), .int n7, .ref o] 2 12 (WPJ dT ad o (kop I n7) I (fun x J => ∃ v, (fun q9 J => kop I n7 = 0 ∧ I = J ∧ iau I n7.toNatClampNeg = q9) v J ∧ cvB v = x)) := by
  intro l9 hl9
  refine wi_of hl9 (own := RL) (cc := cL_isHeard) (maxL := 4) (hh := [(0, 16, 19, 13), (0, 16, 22, 19)]) [(0, .ref (ad 0)), (1, .int n7), (2, .ref o)] (by decide) rfl rfl rfl (Nat.le_of_ble_eq_true rfl) ?_
  intro X hX hE
  have q_c13 : Cond.classLink RL 13 "java/lang/IllegalStateException" ∈ wsL_isHeard := by decide +kernel
  have q_c19 : Cond.classLink RL 19 "java/lang/IndexOutOfBoundsException" ∈ wsL_isHeard := by decide +kernel
  unfold WJ
  refine g_aload_n hX 2 rfl dL_isHeard_0 rfl ?_
  refine g_iconst hX 0 dL_isHeard_1 rfl ?_
  refine g_aload_n hX 0 rfl dL_isHeard_2 rfl ?_
  refine g_iload_n hX 1 rfl dL_isHeard_3 rfl ?_
  refine w_callI hX hE (w1 := []) (w2 := [(o, eJ dT g)]) [.int n7] (k_X6_isHeard I n7) gL_isHeard_X6_isHeard rfl rfl rfl hd_X6_isHeard ⟨(Nat.le_of_ble_eq_true rfl), (Nat.le_of_ble_eq_true rfl)⟩ ⟨(Nat.le_of_ble_eq_true rfl), (Nat.le_of_ble_eq_true rfl)⟩ rfl (Nat.le_of_ble_eq_true rfl) dL_isHeard_4 (fun E hE9 => ?_) (fun q J hJ => ?_)
  · rcases hE9 with ⟨rfl, hc⟩ | ⟨rfl, hc⟩
    · refine ⟨[], [⟨0, 16, 22, 19⟩], ⟨0, 16, 19, 13⟩, rfl, fun z hz => (nomatch hz), by decide +kernel, by decide, by decide, q_c13, fun q9 => ?_⟩
      refine g_astore_n hX _ rfl dL_isHeard_19 rfl (Nat.le_of_ble_eq_true rfl) ?_
      refine g_iconst hX 1 dL_isHeard_20 rfl ?_
      exact w_iret hX hE dL_isHeard_21 (Nat.le_of_ble_eq_true rfl) (Nat.le_of_ble_eq_true rfl) ⟨I, g, rfl, by rw [hc]; rfl, fun h => absurd (hc.symm.trans h) (by decide), fun _ => rfl⟩
    · refine ⟨[⟨0, 16, 19, 13⟩], [], ⟨0, 16, 22, 19⟩, rfl, fun z hz => ?_, by decide +kernel, by decide, by decide, q_c19, fun q9 => ?_⟩
      · simp only [List.mem_cons, List.not_mem_nil, or_false] at hz
        subst hz
        exact ⟨by decide, xIS, by decide +kernel, q_c13, by decide⟩
      · refine g_astore_n hX _ rfl dL_isHeard_22 rfl (Nat.le_of_ble_eq_true rfl) ?_
        refine g_iconst hX 2 dL_isHeard_23 rfl ?_
        exact w_iret hX hE dL_isHeard_24 (Nat.le_of_ble_eq_true rfl) (Nat.le_of_ble_eq_true rfl) ⟨I, g, rfl, by rw [hc]; rfl, fun h => absurd (hc.symm.trans h) (by decide), fun _ => rfl⟩
  · have h0 : kop I n7 = 0 := hJ.1
    refine g_if_eq (tgt := 14) hX dL_isHeard_7 (by decide) (fun c1 => ?_) (fun c1 => ?_)
    · refine g_lconst hX 0 dL_isHeard_14 rfl ?_
      refine w_last hX (w1 := [] ++ pw ad cL (kf dT ad J)) (w2 := []) dL_isHeard_15 ?_
      refine g_goto (tgt := 25) hX dL_isHeard_16 (by decide) ?_
      refine g_iconst hX 0 dL_isHeard_25 rfl ?_
      exact w_iret hX hE dL_isHeard_26 (Nat.le_of_ble_eq_true rfl) (Nat.le_of_ble_eq_true rfl) ⟨J, vp_updL g 0 0, rfl, by rw [h0]; rfl, fun _ => ⟨q, hJ, by rw [c1]; rfl⟩, fun h => absurd h0 h⟩
    · refine g_lconst hX 1 dL_isHeard_10 rfl ?_
      refine g_goto (tgt := 15) hX dL_isHeard_11 (by decide) ?_
      refine w_last hX (w1 := [] ++ pw ad cL (kf dT ad J)) (w2 := []) dL_isHeard_15 ?_
      refine g_goto (tgt := 25) hX dL_isHeard_16 (by decide) ?_
      refine g_iconst hX 0 dL_isHeard_25 rfl ?_
      exact w_iret hX hE dL_isHeard_26 (Nat.le_of_ble_eq_true rfl) (Nat.le_of_ble_eq_true rfl) ⟨J, vp_updL g 0 1, rfl, by rw [h0]; rfl, fun _ => ⟨q, hJ, if_neg c1⟩, fun h => absurd h0 h⟩
abbrev rm_L_sounding : Room := { frames := 7, cells := 1, slots := 6, locals := 104 }
theorem hd_L_sounding : yL_sounding.cls ≠ "java/lang/invoke/MethodHandle" ∧ yL_sounding.cls ≠ "java/lang/invoke/VarHandle" ∧ (parseMethodDescriptor yL_sounding.desc).map (fun d => d.parameters.length) = some 4 := by decide +kernel
set_option maxRecDepth 100000 in
set_option maxHeartbeats 4000000 in
theorem k_L_sounding {D : va_G} {dT : Nat → ClassId} {ad : Nat → Nat} {o : Nat} {g : Nat → Int64} (I : Nat → Nat → Int32) (x7 w7 : Int32) : ∀ l8 : Launch, l8.stackTraces = false → WI l8 yL_sounding wsL_sounding rm_L_sounding D dT (WJ dT ad I o g) [.ref (ad 0), .int x7, .int w7, .ref o] 1 6 (WPJ dT ad o (kso I x7 w7) I (fun x J => ∃ v, (fun q9 J => kso I x7 w7 = 0 ∧ I = J ∧ ltell I x7 w7 = q9) v J ∧ cvI v = x)) := by
  intro l9 hl9
  refine wi_of hl9 (own := RL) (cc := cL_sounding) (maxL := 5) (hh := [(0, 10, 13, 21), (0, 10, 17, 44)]) [(0, .ref (ad 0)), (1, .int x7), (2, .int w7), (3, .ref o)] (by decide) rfl rfl rfl (Nat.le_of_ble_eq_true rfl) ?_
  intro X hX hE
  have q_c21 : Cond.classLink RL 21 "java/lang/IllegalArgumentException" ∈ wsL_sounding := by decide +kernel
  have q_c44 : Cond.classLink RL 44 "java/util/NoSuchElementException" ∈ wsL_sounding := by decide +kernel
  unfold WJ
  refine g_aload_n hX 3 rfl dL_sounding_0 rfl ?_
  refine g_iconst hX 0 dL_sounding_1 rfl ?_
  refine g_aload_n hX 0 rfl dL_sounding_2 rfl ?_
  refine g_iload_n hX 1 rfl dL_sounding_3 rfl ?_
  refine g_iload_n hX 2 rfl dL_sounding_4 rfl ?_
  refine w_callI hX hE (w1 := []) (w2 := [(o, eJ dT g)]) [.int x7, .int w7] (k_X6_sounding I x7 w7) gL_sounding_X6_sounding rfl rfl rfl hd_X6_sounding ⟨(Nat.le_of_ble_eq_true rfl), (Nat.le_of_ble_eq_true rfl)⟩ ⟨(Nat.le_of_ble_eq_true rfl), (Nat.le_of_ble_eq_true rfl)⟩ rfl (Nat.le_of_ble_eq_true rfl) dL_sounding_5 (fun E hE9 => ?_) (fun q J hJ => ?_)
  · rcases hE9 with ⟨rfl, hc⟩ | ⟨rfl, hc⟩
    · refine ⟨[], [⟨0, 10, 17, 44⟩], ⟨0, 10, 13, 21⟩, rfl, fun z hz => (nomatch hz), by decide +kernel, by decide, by decide, q_c21, fun q9 => ?_⟩
      refine g_astore hX _ rfl dL_sounding_13 (Nat.le_of_ble_eq_true rfl) ?_
      refine g_iconst hX 1 dL_sounding_15 rfl ?_
      exact w_iret hX hE dL_sounding_16 (Nat.le_of_ble_eq_true rfl) (Nat.le_of_ble_eq_true rfl) ⟨I, g, rfl, by rw [hc]; rfl, fun h => absurd (hc.symm.trans h) (by decide), fun _ => rfl⟩
    · refine ⟨[⟨0, 10, 13, 21⟩], [], ⟨0, 10, 17, 44⟩, rfl, fun z hz => ?_, by decide +kernel, by decide, by decide, q_c44, fun q9 => ?_⟩
      · simp only [List.mem_cons, List.not_mem_nil, or_false] at hz
        subst hz
        exact ⟨by decide, xIA, by decide +kernel, q_c21, by decide⟩
      · refine g_astore hX _ rfl dL_sounding_17 (Nat.le_of_ble_eq_true rfl) ?_
        refine g_iconst hX 2 dL_sounding_19 rfl ?_
        exact w_iret hX hE dL_sounding_20 (Nat.le_of_ble_eq_true rfl) (Nat.le_of_ble_eq_true rfl) ⟨I, g, rfl, by rw [hc]; rfl, fun h => absurd (hc.symm.trans h) (by decide), fun _ => rfl⟩
  · have h0 : kso I x7 w7 = 0 := hJ.1
    refine g_i2l hX dL_sounding_8 ?_
    refine w_last hX (w1 := [] ++ pw ad cL (kf dT ad J)) (w2 := []) dL_sounding_9 ?_
    refine g_goto (tgt := 21) hX dL_sounding_10 (by decide) ?_
    refine g_iconst hX 0 dL_sounding_21 rfl ?_
    exact w_iret hX hE dL_sounding_22 (Nat.le_of_ble_eq_true rfl) (Nat.le_of_ble_eq_true rfl) ⟨J, vp_updL g 0 q.toInt64, rfl, by rw [h0]; rfl, fun _ => ⟨q, hJ, rfl⟩, fun h => absurd h0 h⟩
abbrev rm_L_loudest : Room := { frames := 7, cells := 1, slots := 6, locals := 102 }
theorem hd_L_loudest : yL_loudest.cls ≠ "java/lang/invoke/MethodHandle" ∧ yL_loudest.cls ≠ "java/lang/invoke/VarHandle" ∧ (parseMethodDescriptor yL_loudest.desc).map (fun d => d.parameters.length) = some 2 := by decide +kernel
set_option maxRecDepth 100000 in
set_option maxHeartbeats 4000000 in
theorem k_L_loudest {D : va_G} {dT : Nat → ClassId} {ad : Nat → Nat} {o : Nat} {g : Nat → Int64} (I : Nat → Nat → Int32) (c : Nat) (hc : I 17 6 = nI c) (h300 : c ≤ 300) : ∀ l8 : Launch, l8.stackTraces = false → WI l8 yL_loudest wsL_loudest rm_L_loudest D dT (WJ dT ad I o g) [.ref (ad 0), .ref o] 1 6 (WPJ dT ad o (klo I) I (fun x J => ∃ v, (fun q9 J => klo I = 0 ∧ I = J ∧ nI (lfl I (c - 1) 1 0) = q9) v J ∧ cvI v = x)) := by
  intro l9 hl9
  refine wi_of hl9 (own := RL) (cc := cL_loudest) (maxL := 3) (hh := [(0, 8, 11, 44)]) [(0, .ref (ad 0)), (1, .ref o)] (by decide) rfl rfl rfl (Nat.le_of_ble_eq_true rfl) ?_
  intro X hX hE
  have q_c44 : Cond.classLink RL 44 "java/util/NoSuchElementException" ∈ wsL_loudest := by decide +kernel
  unfold WJ
  refine g_aload_n hX 1 rfl dL_loudest_0 rfl ?_
  refine g_iconst hX 0 dL_loudest_1 rfl ?_
  refine g_aload_n hX 0 rfl dL_loudest_2 rfl ?_
  refine w_callI hX hE (w1 := []) (w2 := [(o, eJ dT g)]) [] (k_X6_loudest I c hc h300) gL_loudest_X6_loudest rfl rfl rfl hd_X6_loudest ⟨(Nat.le_of_ble_eq_true rfl), (Nat.le_of_ble_eq_true rfl)⟩ ⟨(Nat.le_of_ble_eq_true rfl), (Nat.le_of_ble_eq_true rfl)⟩ rfl (Nat.le_of_ble_eq_true rfl) dL_loudest_3 (fun E hE9 => ?_) (fun q J hJ => ?_)
  · obtain ⟨rfl, hc⟩ := hE9
    refine ⟨[], [], ⟨0, 8, 11, 44⟩, rfl, fun z hz => (nomatch hz), by decide +kernel, by decide, by decide, q_c44, fun q9 => ?_⟩
    refine g_astore_n hX _ rfl dL_loudest_11 rfl (Nat.le_of_ble_eq_true rfl) ?_
    refine g_iconst hX 1 dL_loudest_12 rfl ?_
    exact w_iret hX hE dL_loudest_13 (Nat.le_of_ble_eq_true rfl) (Nat.le_of_ble_eq_true rfl) ⟨I, g, rfl, by rw [hc]; rfl, fun h => absurd (hc.symm.trans h) (by decide), fun _ => rfl⟩
  · have h0 : klo I = 0 := hJ.1
    refine g_i2l hX dL_loudest_6 ?_
    refine w_last hX (w1 := [] ++ pw ad cL (kf dT ad J)) (w2 := []) dL_loudest_7 ?_
    refine g_goto (tgt := 14) hX dL_loudest_8 (by decide) ?_
    refine g_iconst hX 0 dL_loudest_14 rfl ?_
    exact w_iret hX hE dL_loudest_15 (Nat.le_of_ble_eq_true rfl) (Nat.le_of_ble_eq_true rfl) ⟨J, vp_updL g 0 q.toInt64, rfl, by rw [h0]; rfl, fun _ => ⟨q, hJ, rfl⟩, fun h => absurd h0 h⟩
abbrev rm_L_speed : Room := { frames := 8, cells := 2, slots := 12, locals := 127 }
theorem hd_L_speed : yL_speed.cls ≠ "java/lang/invoke/MethodHandle" ∧ yL_speed.cls ≠ "java/lang/invoke/VarHandle" ∧ (parseMethodDescriptor yL_speed.desc).map (fun d => d.parameters.length) = some 4 := by decide +kernel
set_option maxRecDepth 100000 in
set_option maxHeartbeats 4000000 in
theorem k_L_speed {D : va_G} {dT : Nat → ClassId} {ad : Nat → Nat} {o : Nat} {g : Nat → Int64} (I : Nat → Nat → Int32) (f7 g7 : Int32) : ∀ l8 : Launch, l8.stackTraces = false → WI l8 yL_speed wsL_speed rm_L_speed D dT (WJ dT ad I o g) [.ref (ad 0), .int f7, .int g7, .ref o] 2 12 (WPJ dT ad o (ksp f7 g7) I (fun x J => ∃ v, (fun q9 J => ksp f7 g7 = 0 ∧ up2 (up2 I 0 8 f7) 0 9 g7 = J ∧ I 0 8 = q9) v J ∧ cvI v = x)) := by
  intro l9 hl9
  refine wi_of hl9 (own := RL) (cc := cL_speed) (maxL := 5) (hh := [(0, 10, 13, 21)]) [(0, .ref (ad 0)), (1, .int f7), (2, .int g7), (3, .ref o)] (by decide) rfl rfl rfl (Nat.le_of_ble_eq_true rfl) ?_
  intro X hX hE
  have q_c21 : Cond.classLink RL 21 "java/lang/IllegalArgumentException" ∈ wsL_speed := by decide +kernel
  unfold WJ
  refine g_aload_n hX 3 rfl dL_speed_0 rfl ?_
  refine g_iconst hX 0 dL_speed_1 rfl ?_
  refine g_aload_n hX 0 rfl dL_speed_2 rfl ?_
  refine g_iload_n hX 1 rfl dL_speed_3 rfl ?_
  refine g_iload_n hX 2 rfl dL_speed_4 rfl ?_
  refine w_callI hX hE (w1 := []) (w2 := [(o, eJ dT g)]) [.int f7, .int g7] (k_X6_speed I f7 g7) gL_speed_X6_speed rfl rfl rfl hd_X6_speed ⟨(Nat.le_of_ble_eq_true rfl), (Nat.le_of_ble_eq_true rfl)⟩ ⟨(Nat.le_of_ble_eq_true rfl), (Nat.le_of_ble_eq_true rfl)⟩ rfl (Nat.le_of_ble_eq_true rfl) dL_speed_5 (fun E hE9 => ?_) (fun q J hJ => ?_)
  · obtain ⟨rfl, hc⟩ := hE9
    refine ⟨[], [], ⟨0, 10, 13, 21⟩, rfl, fun z hz => (nomatch hz), by decide +kernel, by decide, by decide, q_c21, fun q9 => ?_⟩
    refine g_astore hX _ rfl dL_speed_13 (Nat.le_of_ble_eq_true rfl) ?_
    refine g_iconst hX 1 dL_speed_15 rfl ?_
    exact w_iret hX hE dL_speed_16 (Nat.le_of_ble_eq_true rfl) (Nat.le_of_ble_eq_true rfl) ⟨I, g, rfl, by rw [hc]; rfl, fun h => absurd (hc.symm.trans h) (by decide), fun _ => rfl⟩
  · have h0 : ksp f7 g7 = 0 := hJ.1
    refine g_i2l hX dL_speed_8 ?_
    refine w_last hX (w1 := [] ++ pw ad cL (kf dT ad J)) (w2 := []) dL_speed_9 ?_
    refine g_goto (tgt := 17) hX dL_speed_10 (by decide) ?_
    refine g_iconst hX 0 dL_speed_17 rfl ?_
    exact w_iret hX hE dL_speed_18 (Nat.le_of_ble_eq_true rfl) (Nat.le_of_ble_eq_true rfl) ⟨J, vp_updL g 0 q.toInt64, rfl, by rw [h0]; rfl, fun _ => ⟨q, hJ, rfl⟩, fun h => absurd h0 h⟩
abbrev rm_L_time : Room := { frames := 8, cells := 1, slots := 6, locals := 128 }
theorem hd_L_time : yL_time.cls ≠ "java/lang/invoke/MethodHandle" ∧ yL_time.cls ≠ "java/lang/invoke/VarHandle" ∧ (parseMethodDescriptor yL_time.desc).map (fun d => d.parameters.length) = some 3 := by decide +kernel
set_option maxRecDepth 100000 in
set_option maxHeartbeats 4000000 in
theorem k_L_time {D : va_G} {dT : Nat → ClassId} {ad : Nat → Nat} {o : Nat} {g : Nat → Int64} (I : Nat → Nat → Int32) (r7 : Int32) : ∀ l8 : Launch, l8.stackTraces = false → WI l8 yL_time wsL_time rm_L_time D dT (WJ dT ad I o g) [.ref (ad 0), .int r7, .ref o] 1 6 (WPJ dT ad o (ktm r7) I (fun x J => (fun q9 J => ktm r7 = 0 ∧ I = J ∧ tms I r7.toNatClampNeg = q9) x J)) := by
  intro l9 hl9
  refine wi_of hl9 (own := RL) (cc := cL_time) (maxL := 4) (hh := [(0, 8, 11, 21)]) [(0, .ref (ad 0)), (1, .int r7), (2, .ref o)] (by decide) rfl rfl rfl (Nat.le_of_ble_eq_true rfl) ?_
  intro X hX hE
  have q_c21 : Cond.classLink RL 21 "java/lang/IllegalArgumentException" ∈ wsL_time := by decide +kernel
  unfold WJ
  refine g_aload_n hX 2 rfl dL_time_0 rfl ?_
  refine g_iconst hX 0 dL_time_1 rfl ?_
  refine g_aload_n hX 0 rfl dL_time_2 rfl ?_
  refine g_iload_n hX 1 rfl dL_time_3 rfl ?_
  refine w_callL hX hE (w1 := []) (w2 := [(o, eJ dT g)]) [.int r7] (k_X6_time I r7) gL_time_X6_time rfl rfl rfl hd_X6_time ⟨(Nat.le_of_ble_eq_true rfl), (Nat.le_of_ble_eq_true rfl)⟩ ⟨(Nat.le_of_ble_eq_true rfl), (Nat.le_of_ble_eq_true rfl)⟩ rfl (Nat.le_of_ble_eq_true rfl) dL_time_4 (fun E hE9 => ?_) (fun q J hJ => ?_)
  · obtain ⟨rfl, hc⟩ := hE9
    refine ⟨[], [], ⟨0, 8, 11, 21⟩, rfl, fun z hz => (nomatch hz), by decide +kernel, by decide, by decide, q_c21, fun q9 => ?_⟩
    refine g_astore_n hX _ rfl dL_time_11 rfl (Nat.le_of_ble_eq_true rfl) ?_
    refine g_iconst hX 1 dL_time_12 rfl ?_
    exact w_iret hX hE dL_time_13 (Nat.le_of_ble_eq_true rfl) (Nat.le_of_ble_eq_true rfl) ⟨I, g, rfl, by rw [hc]; rfl, fun h => absurd (hc.symm.trans h) (by decide), fun _ => rfl⟩
  · have h0 : ktm r7 = 0 := hJ.1
    refine w_last hX (w1 := [] ++ pw ad cL (kf dT ad J)) (w2 := []) dL_time_7 ?_
    refine g_goto (tgt := 14) hX dL_time_8 (by decide) ?_
    refine g_iconst hX 0 dL_time_14 rfl ?_
    exact w_iret hX hE dL_time_15 (Nat.le_of_ble_eq_true rfl) (Nat.le_of_ble_eq_true rfl) ⟨J, vp_updL g 0 q, rfl, by rw [h0]; rfl, fun _ => hJ, fun h => absurd h0 h⟩
abbrev rm_L_heardShare : Room := { frames := 7, cells := 1, slots := 6, locals := 102 }
theorem hd_L_heardShare : yL_heardShare.cls ≠ "java/lang/invoke/MethodHandle" ∧ yL_heardShare.cls ≠ "java/lang/invoke/VarHandle" ∧ (parseMethodDescriptor yL_heardShare.desc).map (fun d => d.parameters.length) = some 2 := by decide +kernel
set_option maxRecDepth 100000 in
set_option maxHeartbeats 4000000 in
theorem k_L_heardShare {D : va_G} {dT : Nat → ClassId} {ad : Nat → Nat} {o : Nat} {g : Nat → UInt64} (I : Nat → Nat → Int32) : ∀ l8 : Launch, l8.stackTraces = false → WI l8 yL_heardShare wsL_heardShare rm_L_heardShare D dT (WD dT ad I o g) [.ref (ad 0), .ref o] 1 6 (WPD dT ad o (khs I) I (fun x J => ∃ v, (fun q9 J => khs I = 0 ∧ I = J ∧ FP.fdiv (FP.i2f (I 3 9)) (FP.i2f (I 3 8)) = q9) v J ∧ FP.f2d v = x)) := by
  intro l9 hl9
  refine wi_of hl9 (own := RL) (cc := cL_heardShare) (maxL := 3) (hh := [(0, 8, 11, 126)]) [(0, .ref (ad 0)), (1, .ref o)] (by decide) rfl rfl rfl (Nat.le_of_ble_eq_true rfl) ?_
  intro X hX hE
  have q_c126 : Cond.classLink RL 126 "java/lang/ArithmeticException" ∈ wsL_heardShare := by decide +kernel
  unfold WD
  refine g_aload_n hX 1 rfl dL_heardShare_0 rfl ?_
  refine g_iconst hX 0 dL_heardShare_1 rfl ?_
  refine g_aload_n hX 0 rfl dL_heardShare_2 rfl ?_
  refine w_callF hX hE (w1 := ([(o, eD dT g)])) (w2 := []) [] (k_X6_heardShare I) gL_heardShare_X6_heardShare rfl rfl rfl hd_X6_heardShare ⟨(Nat.le_of_ble_eq_true rfl), (Nat.le_of_ble_eq_true rfl)⟩ ⟨(Nat.le_of_ble_eq_true rfl), (Nat.le_of_ble_eq_true rfl)⟩ rfl (Nat.le_of_ble_eq_true rfl) dL_heardShare_3 (fun E hE9 => ?_) (fun q J hJ => ?_)
  · obtain ⟨rfl, hc⟩ := hE9
    refine ⟨[], [], ⟨0, 8, 11, 126⟩, rfl, fun z hz => (nomatch hz), by decide +kernel, by decide, by decide, q_c126, fun q9 => ?_⟩
    refine g_astore_n hX _ rfl dL_heardShare_11 rfl (Nat.le_of_ble_eq_true rfl) ?_
    refine g_iconst hX 1 dL_heardShare_12 rfl ?_
    exact w_iret hX hE dL_heardShare_13 (Nat.le_of_ble_eq_true rfl) (Nat.le_of_ble_eq_true rfl) ⟨I, g, rfl, by rw [hc]; rfl, fun h => absurd (hc.symm.trans h) (by decide), fun _ => rfl⟩
  · have h0 : khs I = 0 := hJ.1
    refine g_f2d hX dL_heardShare_6 (Jvm.Free.Fl.f2d_out (hJ.2.2 ▸ nn_fdiv (khs_n hJ.1))) ?_
    refine gw_w (ws2 := [] ++ (o, eD dT g) :: (pw ad cL (kf dT ad J) ++ [])) (by simp) ?_
    refine w_dast hX (w1 := []) (w2 := pw ad cL (kf dT ad J) ++ []) dL_heardShare_7 ?_
    refine g_goto (tgt := 14) hX dL_heardShare_8 (by decide) ?_
    refine g_iconst hX 0 dL_heardShare_14 rfl ?_
    exact w_iret hX hE dL_heardShare_15 (Nat.le_of_ble_eq_true rfl) (Nat.le_of_ble_eq_true rfl) ⟨J, vf_upd g 0 (FP.f2d q), (by unfold WD; simp), by rw [h0]; rfl, fun _ => ⟨q, hJ, rfl⟩, fun h => absurd h0 h⟩
abbrev rm_L_meanLoud : Room := { frames := 7, cells := 1, slots := 6, locals := 102 }
theorem hd_L_meanLoud : yL_meanLoud.cls ≠ "java/lang/invoke/MethodHandle" ∧ yL_meanLoud.cls ≠ "java/lang/invoke/VarHandle" ∧ (parseMethodDescriptor yL_meanLoud.desc).map (fun d => d.parameters.length) = some 2 := by decide +kernel
set_option maxRecDepth 100000 in
set_option maxHeartbeats 4000000 in
theorem k_L_meanLoud {D : va_G} {dT : Nat → ClassId} {ad : Nat → Nat} {o : Nat} {g : Nat → UInt64} (I : Nat → Nat → Int32) (c : Nat) (hc : I 17 6 = nI c) (h300 : c ≤ 300) : ∀ l8 : Launch, l8.stackTraces = false → WI l8 yL_meanLoud wsL_meanLoud rm_L_meanLoud D dT (WD dT ad I o g) [.ref (ad 0), .ref o] 1 6 (WPD dT ad o (klo I) I (fun x J => (fun q9 J => klo I = 0 ∧ I = J ∧ FP.ddiv (FP.i2d (sumB (I 22) c)) (FP.i2d (I 17 6)) = q9) x J)) := by
  intro l9 hl9
  refine wi_of hl9 (own := RL) (cc := cL_meanLoud) (maxL := 3) (hh := [(0, 7, 10, 126)]) [(0, .ref (ad 0)), (1, .ref o)] (by decide) rfl rfl rfl (Nat.le_of_ble_eq_true rfl) ?_
  intro X hX hE
  have q_c126 : Cond.classLink RL 126 "java/lang/ArithmeticException" ∈ wsL_meanLoud := by decide +kernel
  unfold WD
  refine g_aload_n hX 1 rfl dL_meanLoud_0 rfl ?_
  refine g_iconst hX 0 dL_meanLoud_1 rfl ?_
  refine g_aload_n hX 0 rfl dL_meanLoud_2 rfl ?_
  refine w_callZ hX hE (w1 := ([(o, eD dT g)])) (w2 := []) [] (k_X6_meanLoud I c hc h300) gL_meanLoud_X6_meanLoud rfl rfl rfl hd_X6_meanLoud ⟨(Nat.le_of_ble_eq_true rfl), (Nat.le_of_ble_eq_true rfl)⟩ ⟨(Nat.le_of_ble_eq_true rfl), (Nat.le_of_ble_eq_true rfl)⟩ rfl (Nat.le_of_ble_eq_true rfl) dL_meanLoud_3 (fun E hE9 => ?_) (fun q J hJ => ?_)
  · obtain ⟨rfl, hc⟩ := hE9
    refine ⟨[], [], ⟨0, 7, 10, 126⟩, rfl, fun z hz => (nomatch hz), by decide +kernel, by decide, by decide, q_c126, fun q9 => ?_⟩
    refine g_astore_n hX _ rfl dL_meanLoud_10 rfl (Nat.le_of_ble_eq_true rfl) ?_
    refine g_iconst hX 1 dL_meanLoud_11 rfl ?_
    exact w_iret hX hE dL_meanLoud_12 (Nat.le_of_ble_eq_true rfl) (Nat.le_of_ble_eq_true rfl) ⟨I, g, rfl, by rw [hc]; rfl, fun h => absurd (hc.symm.trans h) (by decide), fun _ => rfl⟩
  · have h0 : klo I = 0 := hJ.1
    refine gw_w (ws2 := [] ++ (o, eD dT g) :: (pw ad cL (kf dT ad J) ++ [])) (by simp) ?_
    refine w_dast hX (w1 := []) (w2 := pw ad cL (kf dT ad J) ++ []) dL_meanLoud_6 ?_
    refine g_goto (tgt := 13) hX dL_meanLoud_7 (by decide) ?_
    refine g_iconst hX 0 dL_meanLoud_13 rfl ?_
    exact w_iret hX hE dL_meanLoud_14 (Nat.le_of_ble_eq_true rfl) (Nat.le_of_ble_eq_true rfl) ⟨J, vf_upd g 0 q, (by unfold WD; simp), by rw [h0]; rfl, fun _ => hJ, fun h => absurd h0 h⟩
