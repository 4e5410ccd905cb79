abbrev rm_X2_playRows : Room := { frames := 5, cells := 0, slots := 0, locals := 110 }
theorem hd_X2_playRows : yX2_playRows.cls = RX2 ∧ yX2_playRows.cls ≠ "java/lang/invoke/MethodHandle" ∧ yX2_playRows.cls ≠ "java/lang/invoke/VarHandle" ∧ (parseMethodDescriptor yX2_playRows.desc).map (fun d => d.parameters.length) = some 1 := by decide +kernel
set_option maxRecDepth 100000 in
set_option maxHeartbeats 4000000 in
theorem k_X2_playRows {D : va_G} {dT : Nat → ClassId} {ad : Nat → Nat} (I : Nat → Nat → Int32) (i : Nat) (hi : i < 4) (hP : cP I = some (4 + i)) (a : Nat) (ha : I 3 4 = nI a) (ha2 : a ≤ 200) (hL : LI I) (hb : I 3 10 = 0 ∨ I 3 10 = 1) (m : Nat) (hm : m ≤ 1000) : KI yX2_playRows wsX2_playRows rm_X2_playRows D dT ad I [.ref (ad 3), .int (nI m)] (fun q J => ∃ k, k ≤ m ∧ nI k = q ∧ (∀ j, j < k → ¬ anN I i a j = 0) ∧ (k = m ∨ anN I i a k = 0) ∧ eplN (prI I i k) (anN I i a k) = J) := by
  intro l9
  refine ci_of (own := RX2) (cc := cX2_playRows) (maxL := 4) (some .int) [(0, .ref (ad 3)), (1, .int (nI m))] (by decide) rfl rfl rfl (Nat.le_of_ble_eq_true rfl) ?_
  intro X hX hE hN
  have q_w1 : Cond.fieldLink RX2 31 "Perforatum$Player" "paper" "LPerforatum$Paper;" ∈ wsX2_playRows := List.mem_of_getElem? (i := 1) rfl
  have q_inX2 : ∀ w ∈ wsX20, w ∈ wsX2_playRows := by decide +kernel
  have q_w2 : Cond.fieldLink RX2 35 "Perforatum$Player" "nextRow" "I" ∈ wsX2_playRows := List.mem_of_getElem? (i := 2) rfl
  refine g_aload_n hX 0 rfl dX2_playRows_0 rfl ?_
  refine cg_X2_paper hX (by decide) rfl q_inX2 q_w1 hP dX2_playRows_1 ?_
  refine g_astore_n hX [(2, .ref (ad (4 + i))), (0, .ref (ad 3)), (1, .int (nI m))] rfl dX2_playRows_4 rfl (by decide) ?_
  refine g_aload_n hX 0 rfl dX2_playRows_5 rfl ?_
  refine g_ifnonnull (tgt := 11) hX dX2_playRows_6 (by decide) ?_
  refine g_iconst hX (0) dX2_playRows_11 rfl ?_
  refine g_istore_n hX [(3, .int 0), (2, .ref (ad (4 + i))), (0, .ref (ad 3)), (1, .int (nI m))] rfl dX2_playRows_12 rfl (by decide) ?_
  have lp_13 : ∀ (n9 : Nat) (k : Nat) (J : Nat → Nat → Int32), m - k < n9 → k ≤ m → a + k ≤ 200 → J = prI I i k → J 3 4 = nI (a + k) → LI J → J 3 10 = 0 ∨ J 3 10 = 1 → (∀ j, j < k → ¬ anN I i a j = 0) → CG X D dT ad J [(3, .int (nI k)), (2, .ref (ad (4 + i))), (0, .ref (ad 3)), (1, .int (nI m))] 0 0 13 [] := by
    intro n9
    induction n9 with
    | zero => intro k J h9; exact absurd h9 (Nat.not_lt_zero _)
    | succ n9 ih9 =>
      intro k J h9 hk hak2 hJ hak hLJ hbJ hall
      have ih_13 := ih9
      refine g_iload_n hX 0 rfl dX2_playRows_13 rfl ?_
      refine g_iload_n hX 3 rfl dX2_playRows_14 rfl ?_
      refine g_icmp_ge (tgt := 40) hX dX2_playRows_15 (by decide) (fun c_15 => ?_) (fun c_15 => ?_)
      · have c_15 : m ≤ k := (nI_leI (a := m) (b := k) (by omega) (by omega)).mp c_15
        refine g_aload_n hX 1 rfl dX2_playRows_40 rfl ?_
        refine g_aload_n hX 2 rfl dX2_playRows_41 rfl ?_
        refine cg_X2_nextRow hX (by decide) rfl q_inX2 q_w2 dX2_playRows_42 ?_
        refine g_eqi (y := (nI (a + k))) hak ?_
        refine c_callI_V hX [.int (nI (a + k))] 5 (by omega) (cK_p hi) (by decide) rfl (k_X1_hasHolesFrom J i hi (a + k) (by omega)) gX2_playRows_X1_hasHolesFrom rfl rfl rfl hd_X1_hasHolesFrom ⟨Nat.le_of_ble_eq_true rfl, Nat.le_of_ble_eq_true rfl⟩ ⟨Nat.zero_le _, Nat.zero_le _⟩ rfl (Nat.le_of_ble_eq_true rfl) dX2_playRows_45 (fun r_45 J_45 h_45 => ?_)
        obtain ⟨rfl, rfl⟩ := h_45
        refine g_if_ne (tgt := 55) hX dX2_playRows_48 (by decide) (fun c_48 => ?_) (fun c_48 => ?_)
        · refine g_iload_n hX 0 rfl dX2_playRows_55 rfl ?_
          refine g_iret hX hE dX2_playRows_56 (by omega) (by omega) ?_
          exact ⟨_, rfl, k, hk, rfl, hall, Or.inl (by omega), by rw [eplN, if_neg (by rw [anN, ← hJ]; exact c_48), hJ]⟩
        · refine g_aload_n hX 2 rfl dX2_playRows_51 rfl ?_
          refine c_callV_V hX [] 6 (by decide) rfl (by decide) rfl (k_X2_endPlaying J ) gX2_playRows_X2_endPlaying rfl rfl rfl hd_X2_endPlaying ⟨Nat.le_of_ble_eq_true rfl, Nat.le_of_ble_eq_true rfl⟩ ⟨Nat.zero_le _, Nat.zero_le _⟩ rfl (Nat.le_of_ble_eq_true rfl) dX2_playRows_52 (fun J_52 h_52 => ?_)
          subst h_52
          refine g_iload_n hX 0 rfl dX2_playRows_55 rfl ?_
          refine g_iret hX hE dX2_playRows_56 (by omega) (by omega) ?_
          exact ⟨_, rfl, k, hk, rfl, hall, Or.inl (by omega), by rw [eplN, if_pos (by rw [anN, ← hJ]; exact c_48), hJ]⟩
      · have c_15 : ¬ m ≤ k := fun h9 => c_15 ((nI_leI (a := m) (b := k) (by omega) (by omega)).mpr h9)
        refine g_aload_n hX 1 rfl dX2_playRows_18 rfl ?_
        refine g_aload_n hX 2 rfl dX2_playRows_19 rfl ?_
        refine cg_X2_nextRow hX (by decide) rfl q_inX2 q_w2 dX2_playRows_20 ?_
        refine g_eqi (y := (nI (a + k))) hak ?_
        refine c_callI_V hX [.int (nI (a + k))] 5 (by omega) (cK_p hi) (by decide) rfl (k_X1_hasHolesFrom J i hi (a + k) (by omega)) gX2_playRows_X1_hasHolesFrom rfl rfl rfl hd_X1_hasHolesFrom ⟨Nat.le_of_ble_eq_true rfl, Nat.le_of_ble_eq_true rfl⟩ ⟨Nat.zero_le _, Nat.zero_le _⟩ rfl (Nat.le_of_ble_eq_true rfl) dX2_playRows_23 (fun r_23 J_23 h_23 => ?_)
        obtain ⟨rfl, rfl⟩ := h_23
        refine g_if_eq (tgt := 40) hX dX2_playRows_26 (by decide) (fun c_26 => ?_) (fun c_26 => ?_)
        · refine g_aload_n hX 1 rfl dX2_playRows_40 rfl ?_
          refine g_aload_n hX 2 rfl dX2_playRows_41 rfl ?_
          refine cg_X2_nextRow hX (by decide) rfl q_inX2 q_w2 dX2_playRows_42 ?_
          refine g_eqi (y := (nI (a + k))) hak ?_
          refine c_callI_V hX [.int (nI (a + k))] 5 (by omega) (cK_p hi) (by decide) rfl (k_X1_hasHolesFrom J i hi (a + k) (by omega)) gX2_playRows_X1_hasHolesFrom rfl rfl rfl hd_X1_hasHolesFrom ⟨Nat.le_of_ble_eq_true rfl, Nat.le_of_ble_eq_true rfl⟩ ⟨Nat.zero_le _, Nat.zero_le _⟩ rfl (Nat.le_of_ble_eq_true rfl) dX2_playRows_45 (fun r_45 J_45 h_45 => ?_)
          obtain ⟨rfl, rfl⟩ := h_45
          refine g_if_ne (tgt := 55) hX dX2_playRows_48 (by decide) (fun c_48 => ?_) (fun c_48 => ?_)
          · first | exact absurd c_26 c_48 | exact absurd c_48 c_26
          · refine g_aload_n hX 2 rfl dX2_playRows_51 rfl ?_
            refine c_callV_V hX [] 6 (by decide) rfl (by decide) rfl (k_X2_endPlaying J ) gX2_playRows_X2_endPlaying rfl rfl rfl hd_X2_endPlaying ⟨Nat.le_of_ble_eq_true rfl, Nat.le_of_ble_eq_true rfl⟩ ⟨Nat.zero_le _, Nat.zero_le _⟩ rfl (Nat.le_of_ble_eq_true rfl) dX2_playRows_52 (fun J_52 h_52 => ?_)
            subst h_52
            refine g_iload_n hX 0 rfl dX2_playRows_55 rfl ?_
            refine g_iret hX hE dX2_playRows_56 (by omega) (by omega) ?_
            exact ⟨_, rfl, k, hk, rfl, hall, Or.inr (by rw [anN, ← hJ]; exact c_26), by rw [eplN, if_pos (by rw [anN, ← hJ]; exact c_26), hJ]⟩
        · refine g_aload_n hX 2 rfl dX2_playRows_29 rfl ?_
          refine g_aload_n hX 1 rfl dX2_playRows_30 rfl ?_
          refine c_callV_V hX [.ref (ad (4 + i))] 6 (by decide) rfl (by decide) rfl (k_X2_playRow J i hi hLJ hbJ) gX2_playRows_X2_playRow rfl rfl rfl hd_X2_playRow ⟨Nat.le_of_ble_eq_true rfl, Nat.le_of_ble_eq_true rfl⟩ ⟨Nat.zero_le _, Nat.zero_le _⟩ rfl (Nat.le_of_ble_eq_true rfl) dX2_playRows_31 (fun J_31 h_31 => ?_)
          subst h_31
          refine g_iinc hX (nI (k + 1)) [(3, .int (nI (k + 1))), (2, .ref (ad (4 + i))), (0, .ref (ad 3)), (1, .int (nI m))] (k := 0) rfl (g_inc k) rfl dX2_playRows_34 (by decide) ?_
          refine g_goto (tgt := 13) hX dX2_playRows_37 (by decide) ?_
          refine g_lv [0, 1, 2, 3] rfl ?_
          exact ih_13 (k + 1) (plr J i) (by omega) (by omega) (by have := any_lt c_26; omega) (by rw [hJ]; rfl) (by rw [plr_34, hak]; exact nI_1 (a + k)) (LI_plr hLJ) (plr_310 hbJ) (fun j hj => by exact (Nat.lt_or_ge j k).elim (fun q => hall j q) (fun q => by rw [show j = k by omega, anN, ← hJ]; exact c_26))
  refine g_lv [0, 1, 2, 3] rfl ?_
  exact lp_13 _ 0 I (Nat.lt_succ_self _) (Nat.zero_le _) ha2 rfl ha hL hb (fun j hj => absurd hj (Nat.not_lt_zero j))
abbrev rm_X6_tick : Room := { frames := 7, cells := 2, slots := 12, locals := 133 }
theorem hd_X6_tick : yX6_tick.cls = RX6 ∧ yX6_tick.cls ≠ "java/lang/invoke/MethodHandle" ∧ yX6_tick.cls ≠ "java/lang/invoke/VarHandle" ∧ (parseMethodDescriptor yX6_tick.desc).map (fun d => d.parameters.length) = some 1 := by decide +kernel
set_option maxRecDepth 100000 in
set_option maxHeartbeats 4000000 in
theorem k_X6_tick {D : va_G} {dT : Nat → ClassId} {ad : Nat → Nat} (I : Nat → Nat → Int32) (hpv : I 99 0 = -1 ∨ ∃ i, i < 4 ∧ I 99 0 = nI i) (a : Nat) (ha : I 3 4 = nI a) (ha2 : a ≤ 200) (hL : LI I) (hb : I 3 10 = 0 ∨ I 3 10 = 1) (t : Int32) : KTI yX6_tick wsX6_tick rm_X6_tick D dT ad I [.ref (ad 0), .int t] 2 12 (fun q J => kti I t = 0 ∧ ∃ i k, i < 4 ∧ I 99 0 = nI i ∧ k ≤ t.toNatClampNeg ∧ nI k = q ∧ (∀ j, j < k → ¬ anN I i a j = 0) ∧ (k = t.toNatClampNeg ∨ anN I i a k = 0) ∧ eplN (prI I i k) (anN I i a k) = J) (fun E => (E = xIS ∧ (kti I t) = 1) ∨ (E = xIA ∧ (kti I t) = 2)) := by
  intro l9 hl9
  refine ti_of hl9 (own := RX6) (cc := cX6_tick) (maxL := 2) (some .int) [(0, .ref (ad 0)), (1, .int t)] (by decide) rfl rfl rfl (Nat.le_of_ble_eq_true rfl) ?_
  intro X hX hE hN
  have hQ := FI.x hE
  have q_w1 : Cond.fieldLink RX6 25 "Perforatum" "player" "LPerforatum$Player;" ∈ wsX6_tick := List.mem_of_getElem? (i := 1) rfl
  have q_inX6 : ∀ w ∈ wsX60, w ∈ wsX6_tick := by decide +kernel
  refine g_aload_n hX 0 rfl dX6_tick_0 rfl ?_
  refine ct_callV_V hX hQ [] 10 (by decide) rfl (by decide) rfl (k_X6_demandPlaying I ) gX6_tick_X6_demandPlaying rfl rfl rfl hd_X6_demandPlaying ⟨Nat.le_of_ble_eq_true rfl, Nat.le_of_ble_eq_true rfl⟩ ⟨Nat.le_of_ble_eq_true rfl, Nat.le_of_ble_eq_true rfl⟩ (Nat.le_of_ble_eq_true rfl) (Nat.le_of_ble_eq_true rfl) (fun E h9 => by obtain ⟨rfl, h9⟩ := h9; exact ⟨rfl, by simp [kti, h9]⟩) rfl (Nat.le_of_ble_eq_true rfl) dX6_tick_1 (fun J_1 h_1 => ?_)
  obtain ⟨rfl, w_1⟩ := h_1
  refine g_iload_n hX 1 rfl dX6_tick_4 rfl ?_
  refine g_iconst hX (1) dX6_tick_5 rfl ?_
  refine g_bipush hX (100) dX6_tick_6 rfl ?_
  refine ct_callV_S hX hQ [.int t, .int 1, .int 100] (k_X6_demandWithin I t 1 100) gX6_tick_X6_demandWithin rfl rfl rfl hd_X6_demandWithin.2 ⟨Nat.le_of_ble_eq_true rfl, Nat.le_of_ble_eq_true rfl⟩ ⟨Nat.le_of_ble_eq_true rfl, Nat.le_of_ble_eq_true rfl⟩ (Nat.le_of_ble_eq_true rfl) (Nat.le_of_ble_eq_true rfl) (fun E h9 => by obtain ⟨rfl, h9⟩ := h9; exact ⟨rfl, by simp [kti, h9, w_1]⟩) rfl (Nat.le_of_ble_eq_true rfl) dX6_tick_8 (fun J_8 h_8 => ?_)
  obtain ⟨rfl, w_8⟩ := h_8
  obtain ⟨m, hm, rfl⟩ := wi_nat w_8 (by decide) (show (100 : Int32) = nI 100 from rfl) (by decide)
  obtain ⟨i, hi, hp9, hP⟩ := isB_some hpv w_1
  refine g_aload_n hX 0 rfl dX6_tick_11 rfl ?_
  refine cg_X6_player hX (by decide) rfl q_inX6 q_w1 rfl dX6_tick_12 ?_
  refine g_iload_n hX 1 rfl dX6_tick_15 rfl ?_
  refine c_callI_V hX [.int (nI m)] 6 (by decide) rfl (by decide) rfl (k_X2_playRows I i hi hP a ha ha2 hL hb m (by omega)) gX6_tick_X2_playRows rfl rfl rfl hd_X2_playRows ⟨Nat.le_of_ble_eq_true rfl, Nat.le_of_ble_eq_true rfl⟩ ⟨Nat.le_of_ble_eq_true rfl, Nat.le_of_ble_eq_true rfl⟩ rfl (Nat.le_of_ble_eq_true rfl) dX6_tick_16 (fun r_16 J_16 h_16 => ?_)
  refine t_iret hX hE dX6_tick_19 (Nat.le_of_ble_eq_true rfl) (Nat.le_of_ble_eq_true rfl) ?_
  obtain ⟨k, h1, h2, h3, h4, h5⟩ := h_16
  refine ⟨_, rfl, by simp [kti, w_1, w_8], i, k, hi, hp9, ?_, h2, h3, ?_, h5⟩
  · rw [nI_clamp (by omega)]; exact h1
  · rw [nI_clamp (by omega)]; exact h4
abbrev rm_X6_isSound : Room := { frames := 5, cells := 0, slots := 0, locals := 109 }
theorem hd_X6_isSound : yX6_isSound.cls = RX6 ∧ yX6_isSound.cls ≠ "java/lang/invoke/MethodHandle" ∧ yX6_isSound.cls ≠ "java/lang/invoke/VarHandle" ∧ (parseMethodDescriptor yX6_isSound.desc).map (fun d => d.parameters.length) = some 0 := by decide +kernel
set_option maxRecDepth 100000 in
set_option maxHeartbeats 4000000 in
theorem k_X6_isSound {D : va_G} {dT : Nat → ClassId} {ad : Nat → Nat} (I : Nat → Nat → Int32) (c : Nat) (hc : I 2 3 = nI c) (h40 : c ≤ 40) (fa : Nat → Nat) (hfa : ∀ n, n < c → I 12 n = nI (fa n) ∧ fa n < 200) (c9 : Nat) (hc9 : I 17 6 = nI c9) (h300 : c9 ≤ 300) : KI yX6_isSound wsX6_isSound rm_X6_isSound D dT ad I [.ref (ad 0)] (fun q J => ∃ g, upr I 23 g = J ∧ (if lio I c9 0 (fun _ => -1) = 0 then 0 else if ark I c fa = 0 then 0 else 1) = q) := by
  intro l9
  refine ci_of (own := RX6) (cc := cX6_isSound) (maxL := 1) (some .boolean) [(0, .ref (ad 0))] (by decide) rfl rfl rfl (Nat.le_of_ble_eq_true rfl) ?_
  intro X hX hE hN
  have q_w1 : Cond.fieldLink RX6 43 "Perforatum" "log" "LPerforatum$SoundingLog;" ∈ wsX6_isSound := List.mem_of_getElem? (i := 1) rfl
  have q_inX6 : ∀ w ∈ wsX60, w ∈ wsX6_isSound := by decide +kernel
  refine g_aload_n hX 0 rfl dX6_isSound_0 rfl ?_
  refine cg_X6_log hX (by decide) rfl q_inX6 q_w1 rfl dX6_isSound_1 ?_
  refine c_callI_V hX [] 8 (by decide) rfl (by decide) rfl (k_X4_isInOrder I c9 hc9 h300) gX6_isSound_X4_isInOrder rfl rfl rfl hd_X4_isInOrder ⟨Nat.le_of_ble_eq_true rfl, Nat.le_of_ble_eq_true rfl⟩ ⟨Nat.zero_le _, Nat.zero_le _⟩ rfl (Nat.le_of_ble_eq_true rfl) dX6_isSound_4 (fun r_4 J_4 h_4 => ?_)
  refine g_if_eq (tgt := 21) hX dX6_isSound_7 (by decide) (fun c_7 => ?_) (fun c_7 => ?_)
  · refine g_iconst hX (0) dX6_isSound_21 rfl ?_
    refine g_zret hX rfl hE dX6_isSound_22 (by omega) (by omega) ?_
    obtain ⟨g, hg, hl⟩ := h_4
    refine ⟨_, rfl, g, hg, ?_⟩
    rw [hl, if_pos c_7]
  · refine g_aload_n hX 0 rfl dX6_isSound_10 rfl ?_
    refine c_callI_V hX [] 10 (by decide) rfl (by decide) rfl (k_X6_isArrangementKept J_4 c ((congrFun (row_2 h_4) 3).trans hc) h40 fa (fun n hn => by rw [congrFun (row_12 h_4) n]; exact hfa n hn)) gX6_isSound_X6_isArrangementKept rfl rfl rfl hd_X6_isArrangementKept ⟨Nat.le_of_ble_eq_true rfl, Nat.le_of_ble_eq_true rfl⟩ ⟨Nat.zero_le _, Nat.zero_le _⟩ rfl (Nat.le_of_ble_eq_true rfl) dX6_isSound_11 (fun r_11 J_11 h_11 => ?_)
    obtain ⟨rfl, rfl⟩ := h_11
    refine g_if_eq (tgt := 21) hX dX6_isSound_14 (by decide) (fun c_14 => ?_) (fun c_14 => ?_)
    · refine g_iconst hX (0) dX6_isSound_21 rfl ?_
      refine g_zret hX rfl hE dX6_isSound_22 (by omega) (by omega) ?_
      obtain ⟨g, hg, hl⟩ := h_4
      refine ⟨_, rfl, g, hg, ?_⟩
      rw [hl, if_neg c_7, ark_row hg, if_pos c_14]
    · refine g_iconst hX (1) dX6_isSound_17 rfl ?_
      refine g_goto (tgt := 22) hX dX6_isSound_18 (by decide) ?_
      refine g_zret hX rfl hE dX6_isSound_22 (by omega) (by omega) ?_
      obtain ⟨g, hg, hl⟩ := h_4
      refine ⟨_, rfl, g, hg, ?_⟩
      rw [hl, if_neg c_7, ark_row hg, if_neg c_14]

