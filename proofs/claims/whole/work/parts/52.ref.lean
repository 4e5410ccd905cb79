abbrev rm_X8_scan : Room := { frames := 7, cells := 817, slots := 4871, locals := 190 }
theorem hd_X8_scan : yX8_scan.cls = RX8 ∧ yX8_scan.cls ≠ "java/lang/invoke/MethodHandle" ∧ yX8_scan.cls ≠ "java/lang/invoke/VarHandle" ∧ (parseMethodDescriptor yX8_scan.desc).map (fun d => d.parameters.length) = some 1 := by decide +kernel
set_option maxRecDepth 100000 in
set_option maxHeartbeats 4000000 in
theorem k_X8_scan {D : va_G} {dT : Nat → ClassId} {Z : ZT} {ad : Nat → Nat} (M : Nat → Nat → Int32) (S : SZ) (hS : WS S) (hw1 : M 1 2 = nI S.1) (hw2 : M 2 2 = nI S.2.1) (hw3 : M 3 2 = nI S.2.2.1) (hz : ad 99999 = Z.1) (j : Nat) (hj : j < S.1) : ∀ l8, BQ l8 yX8_scan wsX8_scan rm_X8_scan D (tyl dT) Z ad (mL S) (pf dT mK mN M (mR S) ad) [.ref (ad 0), .int (nI j)] 817 4871 (fun r u => ∃ ad2, AGm (mL S) ad ad2 ∧ u = (ad2, scL S (scA M j 200).length, pf dT mK mN (scI M (scA M j 200)) (scR S (scA M j 200).length) ad2) ∧ some (ad2 8) = r) := by
  intro l9
  refine bq_of (own := RX8) (cc := cX8_scan) (maxL := 9) (some (.object "java/util/List")) [(0, .ref (ad 0)), (1, .int (nI j))] (by decide) rfl rfl rfl (Nat.le_of_ble_eq_true rfl) ?_
  intro X hX hE hN hM
  have q_w1 : Cond.classLink RX8 7 RJx4a65c ∈ wsX8_scan := List.mem_of_getElem? (i := 1) rfl
  have q_w2 : Cond.instantiable RJx4a65c 3 ∈ wsX8_scan := List.mem_of_getElem? (i := 2) rfl
  have q_w3 : Cond.initialized RJx4a65c ∈ wsX8_scan := List.mem_of_getElem? (i := 3) rfl
  have q_inJx4a65c : ∀ w ∈ wsJx4a65c0, w ∈ wsX8_scan := by decide +kernel
  have q_w8 : Cond.instanceMethod yJx4a65c_init_da8c8 ∈ wsX8_scan := List.mem_of_getElem? (i := 8) rfl
  have q_w7 : Cond.methodLink RX8 9 yJx4a65c_init_da8c8 ∈ wsX8_scan := List.mem_of_getElem? (i := 7) rfl
  have q_w4 : Cond.fieldLink RX8 10 "PerforatumModel" "rolls" "Ljava/util/List;" ∈ wsX8_scan := List.mem_of_getElem? (i := 4) rfl
  have q_inX8 : ∀ w ∈ wsX80, w ∈ wsX8_scan := by decide +kernel
  have q_w5 : Cond.classLink RX8 68 "[[Z" ∈ wsX8_scan := List.mem_of_getElem? (i := 5) rfl
  have q_w6 : Cond.arrayClass .int ∈ wsX8_scan := List.mem_of_getElem? (i := 6) rfl
  have hS1 := hS.1
  have hS2 := hS.2.1
  have hS3 := hS.2.2.1
  refine g_f (g := pf dT mK mN (upr M 8 (fun _ => 0)) (mR S) ad) (fun i hi => pf_I (upr_n (show i ≠ 8 from fun h => (f_lo (by decide) (by decide) hS) (h ▸ hi))).symm) ?_
  refine g_new hX 3 8 (f_lo (by decide) (by decide) hS) (mR_no hS (f_lo (by decide) (by decide) hS) (by omega)) rfl (by decide) (fun k9 => congrFun upr_s k9) (mR_0 (by omega)) q_inJx4a65c tyJx4a65c_ok q_w1 q_w2 q_w3 rfl (fun j hj => by rcases (show j = 0 ∨ j = 1 ∨ j = 2 by omega) with rfl | rfl | rfl <;> rfl) (Nat.le_of_ble_eq_true rfl) (Nat.le_of_ble_eq_true rfl) dX8_scan_0 (fun qn1 => ?_)
  obtain ⟨a2, ha2⟩ : ∃ z9, z9 = va_up ad 8 qn1 := ⟨_, rfl⟩
  have ga2 : ∀ i, i ∈ (mL S) → a2 i = ad i := fun i hi => by rw [ha2]; exact va_up_ne _ _ (fun h => (f_lo (by decide) (by decide) hS) (h ▸ hi))
  rw [← ha2]
  refine g_lvs (lv2 := [(0, .ref (a2 0)), (1, .int (nI j))]) (st2 := [.ref (a2 8)]) (by rw [ga2 0 (m_lo (by decide))]) rfl ?_
  have aga2 : AGm (mL S) ad a2 := by rw [ha2]; exact AGm_new AGm_rf (f_lo (by decide) (by decide) hS) (by omega)
  refine g_dup hX dX8_scan_3 rfl ?_
  refine b_callV_I hX hM (b := 8) [] (k_Jx4a65c_init_da8c8 8 (List.mem_append_right _ (List.mem_singleton.mpr rfl)) rfl 99999 (AGm_z aga2 hz)) gX8_scan_Jx4a65c_init_da8c8 rfl rfl rfl q_w3 q_w7 q_w8 rfl hd_Jx4a65c_init_da8c8.2 ⟨Nat.le_of_ble_eq_true rfl, Nat.le_of_ble_eq_true rfl⟩ ⟨Nat.le_of_ble_eq_true rfl, Nat.le_of_ble_eq_true rfl⟩ rfl (Nat.le_of_ble_eq_true rfl) dX8_scan_4 (fun ad9 L9 f9 hp9 => ?_)
  cases hp9
  refine g_astore_n hX [(2, .ref (a2 8)), (0, .ref (a2 0)), (1, .int (nI j))] rfl dX8_scan_7 rfl (by decide) ?_
  rw [scI_00, scR_00 rfl, scL_00]
  refine g_aload_n hX 1 rfl dX8_scan_8 rfl ?_
  refine g_getRs (i := 0) hX 12 0 q_inX8 (scL_mem.mpr (Or.inl (m_lo (by decide)))) rfl (by decide) rfl (by decide) rfl q_w4 rfl (j := 1) ((congrFun (scR_n (by omega) (by omega) (by decide)) 0).trans rfl) dX8_scan_9 ?_
  refine g_iload_n hX 2 rfl dX8_scan_12 rfl ?_
  refine b_callQ_F hX hM (b := 1) [.int (nI j)] (scL_mem.mpr (Or.inl (m_lo (by decide)))) (pf_obj rfl (by decide)) rfl (v_get 1 (S.1) 5000 j (LV_up (LV_1 hS (M := M) hw1) (fun i hi => scL_mem.mpr (Or.inl hi)) (fun i hi => scR_n (n := ([] : List (Nat × Nat × Nat)).length) (mL_84 hS hi).1 (mL_84 hS hi).2 (by decide)) (congrFun (scI_n (xs := ([] : List (Nat × Nat × Nat))) (by decide) (by decide)) 2)) hj) gX8_scan_Jx4a65c_get_915e3_f81Jx4a65c (by decide +kernel) rfl rfl rfl hdF_get ⟨Nat.le_of_ble_eq_true rfl, Nat.le_of_ble_eq_true rfl⟩ ⟨Nat.le_of_ble_eq_true rfl, Nat.le_of_ble_eq_true rfl⟩ rfl (Nat.le_of_ble_eq_true rfl) dX8_scan_13 (fun r9 ad9 L9 f9 hp9 => ?_)
  obtain ⟨he9, hr9⟩ := hp9
  cases he9
  subst hr9
  refine b_cast26 (i := (5000 + j)) hX (scL_mem.mpr (Or.inl (m_o hS hj))) (mK_o (by have := hS.1; omega)) q_w5 dX8_scan_18 ?_
  refine g_astore_n hX [(3, .ref (a2 (5000 + j))), (2, .ref (a2 8)), (0, .ref (a2 0)), (1, .int (nI j))] rfl dX8_scan_21 rfl (by decide) ?_
  refine g_iconst hX (0) dX8_scan_22 rfl ?_
  refine g_istore hX [(4, .int 0), (3, .ref (a2 (5000 + j))), (2, .ref (a2 8)), (0, .ref (a2 0)), (1, .int (nI j))] rfl dX8_scan_23 (by decide) ?_
  have lp_25 : ∀ (n9 : Nat) (r : Nat) (xs : List (Nat × Nat × Nat)) (a : Nat → Nat), 200 - r < n9 → (r ≤ 200) → (xs = scA M j r) → (AGm (mL S) ad a) → GG X D a (scL S xs.length) (pf dT mK mN (scI M xs) (scR S xs.length) a) [(4, .int (nI r)), (3, .ref (a (5000 + j))), (2, .ref (a 8)), (0, .ref (a 0)), (1, .int (nI j))] (1 + xs.length + gNn xs.length) (3 + 3 * xs.length + gTn xs.length) 25 [] := by
    intro n9
    induction n9 with
    | zero => intro r xs a h9; exact absurd h9 (Nat.not_lt_zero _)
    | succ n9 ih9 =>
      intro r xs a h9 hr hx hag
      have ih_25 := ih9
      have hn1 : xs.length ≤ 804 := by rw [hx]; exact scA_804 M j hr
      refine g_iload hX 0 rfl dX8_scan_25 ?_
      refine g_sipush hX (200) dX8_scan_27 rfl ?_
      refine g_icmp_ge (tgt := 195) hX dX8_scan_30 (by decide) (fun c_30 => ?_) (fun c_30 => ?_)
      · have c_30 : 200 ≤ r := (nI_leI (a := 200) (b := r) (by omega) (by omega)).mp c_30
        refine g_aload_n hX 2 rfl dX8_scan_195 rfl ?_
        refine b_aret hX (some (a 8)) rfl hE (Or.inl ⟨_, rfl⟩) dX8_scan_196 (by have := gN_le hn1; omega) (by have := gT_le hn1; omega) ?_
        have hx9 : xs = scA M j 200 := by rw [hx, show r = 200 by omega]
        subst hx9
        exact ⟨_, hag, rfl, rfl⟩
      · have c_30 : ¬ 200 ≤ r := fun h9 => c_30 ((nI_leI (a := 200) (b := r) (by omega) (by omega)).mpr h9)
        refine g_iconst hX (0) dX8_scan_33 rfl ?_
        refine g_istore hX [(5, .int 0), (4, .int (nI r)), (3, .ref (a (5000 + j))), (2, .ref (a 8)), (0, .ref (a 0)), (1, .int (nI j))] rfl dX8_scan_34 (by decide) ?_
        have lp_36 : ∀ (n9 : Nat) (t : Nat) (xs2 : List (Nat × Nat × Nat)) (a2 : Nat → Nat), 12 - t < n9 → (t ≤ 12) → (xs2 = scT M j r (scA M j r) t) → (AGm (mL S) ad a2) → GG X D a2 (scL S xs2.length) (pf dT mK mN (scI M xs2) (scR S xs2.length) a2) [(5, .int (nI t)), (4, .int (nI r)), (3, .ref (a2 (5000 + j))), (2, .ref (a2 8)), (0, .ref (a2 0)), (1, .int (nI j))] (1 + xs2.length + gNn xs2.length) (3 + 3 * xs2.length + gTn xs2.length) 36 [] := by
          intro n9
          induction n9 with
          | zero => intro t xs2 a2 h9; exact absurd h9 (Nat.not_lt_zero _)
          | succ n9 ih9 =>
            intro t xs2 a2 h9 ht hx2 hag2
            have ih_36 := ih9
            have hn2 : xs2.length ≤ 804 := by rw [hx2]; exact scT_804 M j (by omega) ht
            refine g_iload hX 0 rfl dX8_scan_36 ?_
            refine g_bipush hX (12) dX8_scan_38 rfl ?_
            refine g_icmp_ge (tgt := 189) hX dX8_scan_40 (by decide) (fun c_40 => ?_) (fun c_40 => ?_)
            · have c_40 : 12 ≤ t := (nI_leI (a := 12) (b := t) (by omega) (by omega)).mp c_40
              refine g_iinc hX (nI (r + 1)) [(4, .int (nI (r + 1))), (5, .int (nI t)), (3, .ref (a2 (5000 + j))), (2, .ref (a2 8)), (0, .ref (a2 0)), (1, .int (nI j))] (k := 1) rfl (g_inc r) rfl dX8_scan_189 (by decide) ?_
              refine g_goto (tgt := 25) hX dX8_scan_192 (by decide) ?_
              refine g_lv [0, 2, 3, 4, 5] rfl ?_
              exact ih_25 (r + 1) xs2 a2 (by omega) (by omega) (by rw [hx2, show t = 12 by omega]; rfl) (hag2)
            · have c_40 : ¬ 12 ≤ t := fun h9 => c_40 ((nI_leI (a := 12) (b := t) (by omega) (by omega)).mpr h9)
              refine g_iload hX 1 rfl dX8_scan_43 ?_
              refine g_if_le (tgt := 60) hX dX8_scan_45 (by decide) (fun c_45 => ?_) (fun c_45 => ?_)
              · have c_45 := r_le0 c_45 (by omega)
                refine g_iload hX 1 rfl dX8_scan_60 ?_
                refine g_iconst hX (1) dX8_scan_62 rfl ?_
                refine g_icmp_le (tgt := 82) hX dX8_scan_63 (by decide) (fun c_63 => ?_) (fun c_63 => ?_)
                · have c_63 : r ≤ 1 := (nI_leI (a := r) (b := 1) (by omega) (by omega)).mp c_63
                  refine g_iconst hX (0) dX8_scan_82 rfl ?_
                  refine g_istore hX [(6, .int 0), (5, .int (nI t)), (4, .int (nI r)), (3, .ref (a2 (5000 + j))), (2, .ref (a2 8)), (0, .ref (a2 0)), (1, .int (nI j))] rfl dX8_scan_83 (by decide) ?_
                  refine g_aload_n hX 3 rfl dX8_scan_85 rfl ?_
                  refine g_iload hX 2 rfl dX8_scan_86 ?_
                  refine h_aald26 (i := (5000 + j)) hX r rfl (by rw [mN_o (by have := hS.1; omega)]; omega) (by rw [mN_o (by have := hS.1; omega)]; decide) (j := (6000 + 200 * j + r)) ((congrFun (scR_n (by omega) (by omega) hn2) r).trans (mR_o (by have := hS.1; omega) (by omega))) (scL_mem.mpr (Or.inl (m_o hS hj))) (mK_o (by have := hS.1; omega)) dX8_scan_88 ?_
                  refine g_iload hX 1 rfl dX8_scan_89 ?_
                  refine h_zald (i := (6000 + 200 * j + r)) hX t rfl (by rw [mN_r (by have := hS.1; omega) (by omega)]; omega) (by rw [mN_r (by have := hS.1; omega) (by omega)]; decide) (scL_mem.mpr (Or.inl (m_r hS hj (by omega)))) (mK_r (by have := hS.1; omega) (by omega)) dX8_scan_91 ?_
                  refine g_eqi (y := (M (6000 + 200 * j + r) t)) (congrFun (scI_n (xs := xs2) (by omega) (by omega)) t) ?_
                  refine g_if_eq (tgt := 183) hX dX8_scan_92 (by decide) (fun c_92 => ?_) (fun c_92 => ?_)
                  · refine g_iinc hX (nI (t + 1)) [(5, .int (nI (t + 1))), (6, .int 0), (4, .int (nI r)), (3, .ref (a2 (5000 + j))), (2, .ref (a2 8)), (0, .ref (a2 0)), (1, .int (nI j))] (k := 1) rfl (g_inc t) rfl dX8_scan_183 (by decide) ?_
                    refine g_goto (tgt := 36) hX dX8_scan_186 (by decide) ?_
                    skip
                    refine g_lv [0, 2, 3, 4, 5, 6] rfl ?_
                    exact ih_36 (t + 1) xs2 a2 (by omega) (by omega) (by rw [scT, if_pos c_92]; exact hx2) (hag2)
                  · refine g_iload hX 0 rfl dX8_scan_95 ?_
                    refine g_if_eq (tgt := 103) hX dX8_scan_97 (by decide) (fun c_97 => ?_) (fun c_97 => ?_)
                    · have hgo0 : goM M j r t = 0 := (by rw [goM, if_pos c_45])
                      refine g_iload hX 2 rfl dX8_scan_103 ?_
                      refine g_istore hX [(7, .int (nI r)), (6, .int 0), (5, .int (nI t)), (4, .int (nI r)), (3, .ref (a2 (5000 + j))), (2, .ref (a2 8)), (0, .ref (a2 0)), (1, .int (nI j))] rfl dX8_scan_105 (by decide) ?_
                      refine g_iload hX 3 rfl dX8_scan_107 ?_
                      refine g_istore hX [(8, .int (nI r)), (7, .int (nI r)), (6, .int 0), (5, .int (nI t)), (4, .int (nI r)), (3, .ref (a2 (5000 + j))), (2, .ref (a2 8)), (0, .ref (a2 0)), (1, .int (nI j))] rfl dX8_scan_109 (by decide) ?_
                      have lp_111 : ∀ (n9 : Nat) (k : Nat) (q : Nat), 200 - k < n9 → (r ≤ k ∧ k ≤ 200) → (r ≤ q ∧ q ≤ k) → (lsM M j t (200 - k) k q = lsF M j r t) → GG X D a2 (scL S xs2.length) (pf dT mK mN (scI M xs2) (scR S xs2.length) a2) [(8, .int (nI k)), (7, .int (nI q)), (6, .int 0), (5, .int (nI t)), (4, .int (nI r)), (3, .ref (a2 (5000 + j))), (2, .ref (a2 8)), (0, .ref (a2 0)), (1, .int (nI j))] (1 + xs2.length + gNn xs2.length) (3 + 3 * xs2.length + gTn xs2.length) 111 [] := by
                        intro n9
                        induction n9 with
                        | zero => intro k q h9; exact absurd h9 (Nat.not_lt_zero _)
                        | succ n9 ih9 =>
                          intro k q h9 hk hq hl
                          have ih_111 := ih9
                          refine g_iload hX 0 rfl dX8_scan_111 ?_
                          refine g_sipush hX (200) dX8_scan_113 rfl ?_
                          refine g_icmp_ge (tgt := 153) hX dX8_scan_116 (by decide) (fun c_116 => ?_) (fun c_116 => ?_)
                          · have c_116 : 200 ≤ k := (nI_leI (a := 200) (b := k) (by omega) (by omega)).mp c_116
                            have hF : q = lsF M j r t := by
                              have h9 := hl
                              rw [show 200 - k = 0 by omega] at h9
                              exact h9
                            have hlt9 : xs2.length < 804 := by rw [hx2]; exact scT_lt (by omega) (by omega) c_92 hgo0
                            refine g_aload_n hX 6 rfl dX8_scan_153 rfl ?_
                            refine g_iconst hX (3) dX8_scan_154 rfl ?_
                            refine g_f (g := pf dT mK mN (upr (scI M xs2) (9000 + xs2.length) (fun _ => 0)) (scR S xs2.length) a2) (fun i hi => pf_I (upr_n (show i ≠ (9000 + xs2.length) from fun h => (scL_nin hn2) (h ▸ hi))).symm) ?_
                            refine g_newI hX (9000 + xs2.length) (scL_nin hn2) (scL_no hS hn2 (scL_nin hn2) (by omega)) 3 (mK_h (by omega)) mN_t (fun k9 => congrFun upr_s k9) (x := 3) rfl (by decide) q_w6 (by have := gN_le hn2; show _ ≤ 817; omega) (by have := gT_le hn2; show _ ≤ 4871; omega) dX8_scan_155 (fun qn3 => ?_)
                            obtain ⟨a4, ha4⟩ : ∃ z9, z9 = va_up a2 (9000 + xs2.length) qn3 := ⟨_, rfl⟩
                            have ga4 : ∀ i, i ∈ (scL S xs2.length) → a4 i = a2 i := fun i hi => by rw [ha4]; exact va_up_ne _ _ (fun h => (scL_nin hn2) (h ▸ hi))
                            rw [← ha4]
                            refine g_lvs (lv2 := [(8, .int (nI k)), (7, .int (nI q)), (6, .int 0), (5, .int (nI t)), (4, .int (nI r)), (3, .ref (a4 (5000 + j))), (2, .ref (a4 8)), (0, .ref (a4 0)), (1, .int (nI j))]) (st2 := [.ref (a4 (9000 + xs2.length)), .ref (a4 8)]) (by rw [ga4 (5000 + j) (scL_mem.mpr (Or.inl (m_o hS hj))), ga4 8 (scL_mem.mpr (Or.inr (Or.inl rfl))), ga4 0 (scL_mem.mpr (Or.inl (m_lo (by decide))))]) (by rw [ga4 8 (scL_mem.mpr (Or.inr (Or.inl rfl)))]) ?_
                            have aga4 : AGm (mL S) ad a4 := by rw [ha4]; exact AGm_new hag2 (f_t (by omega)) (by omega)
                            refine g_dup hX dX8_scan_157 rfl ?_
                            refine g_iconst hX (0) dX8_scan_158 rfl ?_
                            refine g_iload hX 4 rfl dX8_scan_159 ?_
                            refine h_iast (i := (9000 + xs2.length)) hX 0 rfl (by rw [mN_t]; omega) (by rw [mN_t]; decide) (List.mem_append_right _ (List.mem_singleton.mpr rfl)) (mK_h (by omega)) dX8_scan_161 ?_
                            refine g_dup hX dX8_scan_162 rfl ?_
                            refine g_iconst hX (1) dX8_scan_163 rfl ?_
                            refine g_iload hX 1 rfl dX8_scan_164 ?_
                            refine g_iload hX 4 rfl dX8_scan_166 ?_
                            refine g_isub hX dX8_scan_168 ?_
                            refine g_iconst hX (1) dX8_scan_169 rfl ?_
                            refine g_iadd hX dX8_scan_170 ?_
                            refine g_eqi (y := nI (q - r + 1)) (len1 (by omega)) ?_
                            refine h_iast (i := (9000 + xs2.length)) hX 1 rfl (by rw [mN_t]; omega) (by rw [mN_t]; decide) (List.mem_append_right _ (List.mem_singleton.mpr rfl)) (mK_h (by omega)) dX8_scan_171 ?_
                            refine g_dup hX dX8_scan_172 rfl ?_
                            refine g_iconst hX (2) dX8_scan_173 rfl ?_
                            refine g_iload hX 3 rfl dX8_scan_174 ?_
                            refine h_iast (i := (9000 + xs2.length)) hX 2 rfl (by rw [mN_t]; omega) (by rw [mN_t]; decide) (List.mem_append_right _ (List.mem_singleton.mpr rfl)) (mK_h (by omega)) dX8_scan_176 ?_
                            refine b_callI_F hX hM (b := 8) [.ref (a4 (9000 + xs2.length))] (List.mem_append_left _ (scL_mem.mpr (Or.inr (Or.inl rfl)))) (pf_obj rfl (by decide)) rfl (k_add8 (up2 (up2 (up2 (upr (scI M xs2) (9000 + xs2.length) (fun _ => 0)) (9000 + xs2.length) 0 (nI r)) (9000 + xs2.length) 1 (nI (q - r + 1))) (9000 + xs2.length) 2 (nI t)) S hS xs2.length hlt9 ((up2_n (Or.inl (by omega))).trans ((up2_n (Or.inl (by omega))).trans ((up2_n (Or.inl (by omega))).trans ((congrFun (upr_n (by omega)) 2).trans scI_82)))) (AGm_z aga4 hz)) gX8_scan_Jx4a65c_add_9ea2d_f70Jx4a65c (by decide +kernel) rfl rfl rfl hdF_add ⟨Nat.le_of_ble_eq_true rfl, Nat.le_of_ble_eq_true rfl⟩ ⟨by have h5 := gN_le (n := xs2.length + 1) (by omega); have h6 : gNn (xs2.length + 1) = gNn xs2.length + gC xs2.length (cap xs2.length) := rfl; show _ ≤ 817; omega, by have h5 := gT_le (n := xs2.length + 1) (by omega); have h6 : gTn (xs2.length + 1) = gTn xs2.length + gS xs2.length (cap xs2.length) := rfl; show _ ≤ 4871; omega⟩ rfl (Nat.le_of_ble_eq_true rfl) dX8_scan_177 (fun r9 a5 L9 f9 hp9 => ?_)
                            obtain ⟨⟨x9, ga5, he9⟩, hr9⟩ := hp9
                            cases he9
                            subst hr9
                            have aga5 : AGm (mL S) ad a5 := fun i hi h6 h1 => (ga5 i (by rcases hi with w | w; have := mL_84 hS w; omega; omega)).trans (aga4 i hi h6 h1)
                            refine g_lvs (lv2 := [(8, .int (nI k)), (7, .int (nI q)), (6, .int 0), (5, .int (nI t)), (4, .int (nI r)), (3, .ref (a5 (5000 + j))), (2, .ref (a5 8)), (0, .ref (a5 0)), (1, .int (nI j))]) (st2 := [.int 1]) (by rw [ga5 (5000 + j) (by omega), ga5 8 (by omega), ga5 0 (by omega)]) rfl ?_
                            rw [show (up2 (up2 (up2 (upr (scI M xs2) (9000 + xs2.length) (fun _ => 0)) (9000 + xs2.length) 0 (nI r)) (9000 + xs2.length) 1 (nI (q - r + 1))) (9000 + xs2.length) 2 (nI t)) 8 0 = nI xs2.length from ((up2_n (Or.inl (by omega))).trans ((up2_n (Or.inl (by omega))).trans ((up2_n (Or.inl (by omega))).trans ((congrFun (upr_n (by omega)) 0).trans scI_80)))), scI_add, show xs2.length + 1 = (xs2 ++ [(r, q - r + 1, t)]).length from by rw [List.length_append, List.length_singleton]]
                            refine g_pop hX dX8_scan_182 rfl ?_
                            refine g_iinc hX (nI (t + 1)) [(5, .int (nI (t + 1))), (8, .int (nI k)), (7, .int (nI q)), (6, .int 0), (4, .int (nI r)), (3, .ref (a5 (5000 + j))), (2, .ref (a5 8)), (0, .ref (a5 0)), (1, .int (nI j))] (k := 3) rfl (g_inc t) rfl dX8_scan_183 (by decide) ?_
                            refine g_goto (tgt := 36) hX dX8_scan_186 (by decide) ?_
                            refine g_widen (k := 1 + (xs2 ++ [(r, q - r + 1, t)]).length + gNn (xs2 ++ [(r, q - r + 1, t)]).length) (n := 3 + 3 * (xs2 ++ [(r, q - r + 1, t)]).length + gTn (xs2 ++ [(r, q - r + 1, t)]).length) (by rw [show (xs2 ++ [(r, q - r + 1, t)]).length = xs2.length + 1 from by rw [List.length_append, List.length_singleton]]; show _ ≤ 1 + (xs2.length + 1) + (gNn xs2.length + gC xs2.length (cap xs2.length)); omega) (by rw [show (xs2 ++ [(r, q - r + 1, t)]).length = xs2.length + 1 from by rw [List.length_append, List.length_singleton]]; show _ ≤ 3 + 3 * (xs2.length + 1) + (gTn xs2.length + gS xs2.length (cap xs2.length)); omega) ?_
                            skip
                            refine g_lv [0, 4, 5, 6, 7, 8] rfl ?_
                            exact ih_36 (t + 1) (xs2 ++ [(r, q - r + 1, t)]) a5 (by omega) (by omega) (by rw [scT, if_neg c_92, if_pos (show goM M j r t = 0 from hgo0), hx2, hF]) (aga5)
                          · have c_116 : ¬ 200 ≤ k := fun h9 => c_116 ((nI_leI (a := 200) (b := k) (by omega) (by omega)).mpr h9)
                            refine g_iload hX 0 rfl dX8_scan_119 ?_
                            refine g_iload hX 1 rfl dX8_scan_121 ?_
                            refine g_iconst hX (2) dX8_scan_123 rfl ?_
                            refine g_iadd hX dX8_scan_124 ?_
                            refine g_eqi (y := nI (q + 2)) (nI_add q 2) ?_
                            refine g_icmp_gt (tgt := 153) hX dX8_scan_125 (by decide) (fun c_125 => ?_) (fun c_125 => ?_)
                            · have c_125 : (q + 2) < k := (nI_ltI (a := (q + 2)) (b := k) (by omega) (by omega)).mp c_125
                              have hF : q = lsF M j r t := by
                                have h9 := hl
                                rw [show 200 - k = (200 - (k + 1)) + 1 by omega, lsM, if_pos c_125] at h9
                                exact h9
                              have hlt9 : xs2.length < 804 := by rw [hx2]; exact scT_lt (by omega) (by omega) c_92 hgo0
                              refine g_aload_n hX 6 rfl dX8_scan_153 rfl ?_
                              refine g_iconst hX (3) dX8_scan_154 rfl ?_
                              refine g_f (g := pf dT mK mN (upr (scI M xs2) (9000 + xs2.length) (fun _ => 0)) (scR S xs2.length) a2) (fun i hi => pf_I (upr_n (show i ≠ (9000 + xs2.length) from fun h => (scL_nin hn2) (h ▸ hi))).symm) ?_
                              refine g_newI hX (9000 + xs2.length) (scL_nin hn2) (scL_no hS hn2 (scL_nin hn2) (by omega)) 3 (mK_h (by omega)) mN_t (fun k9 => congrFun upr_s k9) (x := 3) rfl (by decide) q_w6 (by have := gN_le hn2; show _ ≤ 817; omega) (by have := gT_le hn2; show _ ≤ 4871; omega) dX8_scan_155 (fun qn6 => ?_)
                              obtain ⟨a7, ha7⟩ : ∃ z9, z9 = va_up a2 (9000 + xs2.length) qn6 := ⟨_, rfl⟩
                              have ga7 : ∀ i, i ∈ (scL S xs2.length) → a7 i = a2 i := fun i hi => by rw [ha7]; exact va_up_ne _ _ (fun h => (scL_nin hn2) (h ▸ hi))
                              rw [← ha7]
                              refine g_lvs (lv2 := [(8, .int (nI k)), (7, .int (nI q)), (6, .int 0), (5, .int (nI t)), (4, .int (nI r)), (3, .ref (a7 (5000 + j))), (2, .ref (a7 8)), (0, .ref (a7 0)), (1, .int (nI j))]) (st2 := [.ref (a7 (9000 + xs2.length)), .ref (a7 8)]) (by rw [ga7 (5000 + j) (scL_mem.mpr (Or.inl (m_o hS hj))), ga7 8 (scL_mem.mpr (Or.inr (Or.inl rfl))), ga7 0 (scL_mem.mpr (Or.inl (m_lo (by decide))))]) (by rw [ga7 8 (scL_mem.mpr (Or.inr (Or.inl rfl)))]) ?_
                              have aga7 : AGm (mL S) ad a7 := by rw [ha7]; exact AGm_new hag2 (f_t (by omega)) (by omega)
                              refine g_dup hX dX8_scan_157 rfl ?_
                              refine g_iconst hX (0) dX8_scan_158 rfl ?_
                              refine g_iload hX 4 rfl dX8_scan_159 ?_
                              refine h_iast (i := (9000 + xs2.length)) hX 0 rfl (by rw [mN_t]; omega) (by rw [mN_t]; decide) (List.mem_append_right _ (List.mem_singleton.mpr rfl)) (mK_h (by omega)) dX8_scan_161 ?_
                              refine g_dup hX dX8_scan_162 rfl ?_
                              refine g_iconst hX (1) dX8_scan_163 rfl ?_
                              refine g_iload hX 1 rfl dX8_scan_164 ?_
                              refine g_iload hX 4 rfl dX8_scan_166 ?_
                              refine g_isub hX dX8_scan_168 ?_
                              refine g_iconst hX (1) dX8_scan_169 rfl ?_
                              refine g_iadd hX dX8_scan_170 ?_
                              refine g_eqi (y := nI (q - r + 1)) (len1 (by omega)) ?_
                              refine h_iast (i := (9000 + xs2.length)) hX 1 rfl (by rw [mN_t]; omega) (by rw [mN_t]; decide) (List.mem_append_right _ (List.mem_singleton.mpr rfl)) (mK_h (by omega)) dX8_scan_171 ?_
                              refine g_dup hX dX8_scan_172 rfl ?_
                              refine g_iconst hX (2) dX8_scan_173 rfl ?_
                              refine g_iload hX 3 rfl dX8_scan_174 ?_
                              refine h_iast (i := (9000 + xs2.length)) hX 2 rfl (by rw [mN_t]; omega) (by rw [mN_t]; decide) (List.mem_append_right _ (List.mem_singleton.mpr rfl)) (mK_h (by omega)) dX8_scan_176 ?_
                              refine b_callI_F hX hM (b := 8) [.ref (a7 (9000 + xs2.length))] (List.mem_append_left _ (scL_mem.mpr (Or.inr (Or.inl rfl)))) (pf_obj rfl (by decide)) rfl (k_add8 (up2 (up2 (up2 (upr (scI M xs2) (9000 + xs2.length) (fun _ => 0)) (9000 + xs2.length) 0 (nI r)) (9000 + xs2.length) 1 (nI (q - r + 1))) (9000 + xs2.length) 2 (nI t)) S hS xs2.length hlt9 ((up2_n (Or.inl (by omega))).trans ((up2_n (Or.inl (by omega))).trans ((up2_n (Or.inl (by omega))).trans ((congrFun (upr_n (by omega)) 2).trans scI_82)))) (AGm_z aga7 hz)) gX8_scan_Jx4a65c_add_9ea2d_f70Jx4a65c (by decide +kernel) rfl rfl rfl hdF_add ⟨Nat.le_of_ble_eq_true rfl, Nat.le_of_ble_eq_true rfl⟩ ⟨by have h5 := gN_le (n := xs2.length + 1) (by omega); have h6 : gNn (xs2.length + 1) = gNn xs2.length + gC xs2.length (cap xs2.length) := rfl; show _ ≤ 817; omega, by have h5 := gT_le (n := xs2.length + 1) (by omega); have h6 : gTn (xs2.length + 1) = gTn xs2.length + gS xs2.length (cap xs2.length) := rfl; show _ ≤ 4871; omega⟩ rfl (Nat.le_of_ble_eq_true rfl) dX8_scan_177 (fun r9 a8 L9 f9 hp9 => ?_)
                              obtain ⟨⟨x9, ga8, he9⟩, hr9⟩ := hp9
                              cases he9
                              subst hr9
                              have aga8 : AGm (mL S) ad a8 := fun i hi h6 h1 => (ga8 i (by rcases hi with w | w; have := mL_84 hS w; omega; omega)).trans (aga7 i hi h6 h1)
                              refine g_lvs (lv2 := [(8, .int (nI k)), (7, .int (nI q)), (6, .int 0), (5, .int (nI t)), (4, .int (nI r)), (3, .ref (a8 (5000 + j))), (2, .ref (a8 8)), (0, .ref (a8 0)), (1, .int (nI j))]) (st2 := [.int 1]) (by rw [ga8 (5000 + j) (by omega), ga8 8 (by omega), ga8 0 (by omega)]) rfl ?_
                              rw [show (up2 (up2 (up2 (upr (scI M xs2) (9000 + xs2.length) (fun _ => 0)) (9000 + xs2.length) 0 (nI r)) (9000 + xs2.length) 1 (nI (q - r + 1))) (9000 + xs2.length) 2 (nI t)) 8 0 = nI xs2.length from ((up2_n (Or.inl (by omega))).trans ((up2_n (Or.inl (by omega))).trans ((up2_n (Or.inl (by omega))).trans ((congrFun (upr_n (by omega)) 0).trans scI_80)))), scI_add, show xs2.length + 1 = (xs2 ++ [(r, q - r + 1, t)]).length from by rw [List.length_append, List.length_singleton]]
                              refine g_pop hX dX8_scan_182 rfl ?_
                              refine g_iinc hX (nI (t + 1)) [(5, .int (nI (t + 1))), (8, .int (nI k)), (7, .int (nI q)), (6, .int 0), (4, .int (nI r)), (3, .ref (a8 (5000 + j))), (2, .ref (a8 8)), (0, .ref (a8 0)), (1, .int (nI j))] (k := 3) rfl (g_inc t) rfl dX8_scan_183 (by decide) ?_
                              refine g_goto (tgt := 36) hX dX8_scan_186 (by decide) ?_
                              refine g_widen (k := 1 + (xs2 ++ [(r, q - r + 1, t)]).length + gNn (xs2 ++ [(r, q - r + 1, t)]).length) (n := 3 + 3 * (xs2 ++ [(r, q - r + 1, t)]).length + gTn (xs2 ++ [(r, q - r + 1, t)]).length) (by rw [show (xs2 ++ [(r, q - r + 1, t)]).length = xs2.length + 1 from by rw [List.length_append, List.length_singleton]]; show _ ≤ 1 + (xs2.length + 1) + (gNn xs2.length + gC xs2.length (cap xs2.length)); omega) (by rw [show (xs2 ++ [(r, q - r + 1, t)]).length = xs2.length + 1 from by rw [List.length_append, List.length_singleton]]; show _ ≤ 3 + 3 * (xs2.length + 1) + (gTn xs2.length + gS xs2.length (cap xs2.length)); omega) ?_
                              skip
                              refine g_lv [0, 4, 5, 6, 7, 8] rfl ?_
                              exact ih_36 (t + 1) (xs2 ++ [(r, q - r + 1, t)]) a8 (by omega) (by omega) (by rw [scT, if_neg c_92, if_pos (show goM M j r t = 0 from hgo0), hx2, hF]) (aga8)
                            · have c_125 : ¬ (q + 2) < k := fun h9 => c_125 ((nI_ltI (a := (q + 2)) (b := k) (by omega) (by omega)).mpr h9)
                              refine g_aload_n hX 5 rfl dX8_scan_128 rfl ?_
                              refine g_iload hX 0 rfl dX8_scan_129 ?_
                              refine h_aald26 (i := (5000 + j)) hX k rfl (by rw [mN_o (by have := hS.1; omega)]; omega) (by rw [mN_o (by have := hS.1; omega)]; decide) (j := (6000 + 200 * j + k)) ((congrFun (scR_n (by omega) (by omega) hn2) k).trans (mR_o (by have := hS.1; omega) (by omega))) (scL_mem.mpr (Or.inl (m_o hS hj))) (mK_o (by have := hS.1; omega)) dX8_scan_131 ?_
                              refine g_iload hX 3 rfl dX8_scan_132 ?_
                              refine h_zald (i := (6000 + 200 * j + k)) hX t rfl (by rw [mN_r (by have := hS.1; omega) (by omega)]; omega) (by rw [mN_r (by have := hS.1; omega) (by omega)]; decide) (scL_mem.mpr (Or.inl (m_r hS hj (by omega)))) (mK_r (by have := hS.1; omega) (by omega)) dX8_scan_134 ?_
                              refine g_eqi (y := (M (6000 + 200 * j + k) t)) (congrFun (scI_n (xs := xs2) (by omega) (by omega)) t) ?_
                              refine g_if_eq (tgt := 143) hX dX8_scan_135 (by decide) (fun c_135 => ?_) (fun c_135 => ?_)
                              · refine g_iload hX 1 rfl dX8_scan_143 ?_
                                refine g_istore hX [(7, .int (nI q)), (8, .int (nI k)), (6, .int 0), (5, .int (nI t)), (4, .int (nI r)), (3, .ref (a2 (5000 + j))), (2, .ref (a2 8)), (0, .ref (a2 0)), (1, .int (nI j))] rfl dX8_scan_145 (by decide) ?_
                                refine g_iinc hX (nI (k + 1)) [(8, .int (nI (k + 1))), (7, .int (nI q)), (6, .int 0), (5, .int (nI t)), (4, .int (nI r)), (3, .ref (a2 (5000 + j))), (2, .ref (a2 8)), (0, .ref (a2 0)), (1, .int (nI j))] (k := 1) rfl (g_inc k) rfl dX8_scan_147 (by decide) ?_
                                refine g_goto (tgt := 111) hX dX8_scan_150 (by decide) ?_
                                refine g_lv [0, 1, 2, 3, 4, 5, 6, 7, 8] rfl ?_
                                exact ih_111 (k + 1) q (by omega) (by omega) (by omega) (by have h9 := hl; rw [show 200 - k = (200 - (k + 1)) + 1 by omega, lsM, if_neg c_125, if_pos c_135] at h9; exact h9)
                              · refine g_iload hX 0 rfl dX8_scan_138 ?_
                                refine g_goto (tgt := 145) hX dX8_scan_140 (by decide) ?_
                                refine g_istore hX [(7, .int (nI k)), (8, .int (nI k)), (6, .int 0), (5, .int (nI t)), (4, .int (nI r)), (3, .ref (a2 (5000 + j))), (2, .ref (a2 8)), (0, .ref (a2 0)), (1, .int (nI j))] rfl dX8_scan_145 (by decide) ?_
                                refine g_iinc hX (nI (k + 1)) [(8, .int (nI (k + 1))), (7, .int (nI k)), (6, .int 0), (5, .int (nI t)), (4, .int (nI r)), (3, .ref (a2 (5000 + j))), (2, .ref (a2 8)), (0, .ref (a2 0)), (1, .int (nI j))] (k := 1) rfl (g_inc k) rfl dX8_scan_147 (by decide) ?_
                                refine g_goto (tgt := 111) hX dX8_scan_150 (by decide) ?_
                                refine g_lv [0, 1, 2, 3, 4, 5, 6, 7, 8] rfl ?_
                                exact ih_111 (k + 1) k (by omega) (by omega) (by omega) (by have h9 := hl; rw [show 200 - k = (200 - (k + 1)) + 1 by omega, lsM, if_neg c_125, if_neg c_135] at h9; exact h9)
                      refine g_lv [0, 1, 2, 3, 4, 5, 6, 7, 8] rfl ?_
                      exact lp_111 _ r r (Nat.lt_succ_self _) (by omega) (by omega) rfl
                    · first | exact absurd c_97 (by decide) | exact absurd (by decide) c_97
                · have c_63 : ¬ r ≤ 1 := fun h9 => c_63 ((nI_leI (a := r) (b := 1) (by omega) (by omega)).mpr h9)
                  exact absurd c_45 (by omega)
              · have c_45 := r_gt0 c_45
                refine g_aload_n hX 2 rfl dX8_scan_48 rfl ?_
                refine g_iload hX 1 rfl dX8_scan_49 ?_
                refine g_iconst hX (1) dX8_scan_51 rfl ?_
                refine g_isub hX dX8_scan_52 ?_
                refine g_eqi (y := nI (r - 1)) (sub1 (by omega)) ?_
                refine h_aald26 (i := (5000 + j)) hX (r - 1) rfl (by rw [mN_o (by have := hS.1; omega)]; omega) (by rw [mN_o (by have := hS.1; omega)]; decide) (j := (6000 + 200 * j + (r - 1))) ((congrFun (scR_n (by omega) (by omega) hn2) (r - 1)).trans (mR_o (by have := hS.1; omega) (by omega))) (scL_mem.mpr (Or.inl (m_o hS hj))) (mK_o (by have := hS.1; omega)) dX8_scan_53 ?_
                refine g_iload hX 0 rfl dX8_scan_54 ?_
                refine h_zald (i := (6000 + 200 * j + (r - 1))) hX t rfl (by rw [mN_r (by have := hS.1; omega) (by omega)]; omega) (by rw [mN_r (by have := hS.1; omega) (by omega)]; decide) (scL_mem.mpr (Or.inl (m_r hS hj (by omega)))) (mK_r (by have := hS.1; omega) (by omega)) dX8_scan_56 ?_
                refine g_eqi (y := (M (6000 + 200 * j + (r - 1)) t)) (congrFun (scI_n (xs := xs2) (by omega) (by omega)) t) ?_
                refine g_if_ne (tgt := 78) hX dX8_scan_57 (by decide) (fun c_57 => ?_) (fun c_57 => ?_)
                · refine g_iconst hX (1) dX8_scan_78 rfl ?_
                  refine g_goto (tgt := 83) hX dX8_scan_79 (by decide) ?_
                  refine g_istore hX [(6, .int 1), (5, .int (nI t)), (4, .int (nI r)), (3, .ref (a2 (5000 + j))), (2, .ref (a2 8)), (0, .ref (a2 0)), (1, .int (nI j))] rfl dX8_scan_83 (by decide) ?_
                  refine g_aload_n hX 3 rfl dX8_scan_85 rfl ?_
                  refine g_iload hX 2 rfl dX8_scan_86 ?_
                  refine h_aald26 (i := (5000 + j)) hX r rfl (by rw [mN_o (by have := hS.1; omega)]; omega) (by rw [mN_o (by have := hS.1; omega)]; decide) (j := (6000 + 200 * j + r)) ((congrFun (scR_n (by omega) (by omega) hn2) r).trans (mR_o (by have := hS.1; omega) (by omega))) (scL_mem.mpr (Or.inl (m_o hS hj))) (mK_o (by have := hS.1; omega)) dX8_scan_88 ?_
                  refine g_iload hX 1 rfl dX8_scan_89 ?_
                  refine h_zald (i := (6000 + 200 * j + r)) hX t rfl (by rw [mN_r (by have := hS.1; omega) (by omega)]; omega) (by rw [mN_r (by have := hS.1; omega) (by omega)]; decide) (scL_mem.mpr (Or.inl (m_r hS hj (by omega)))) (mK_r (by have := hS.1; omega) (by omega)) dX8_scan_91 ?_
                  refine g_eqi (y := (M (6000 + 200 * j + r) t)) (congrFun (scI_n (xs := xs2) (by omega) (by omega)) t) ?_
                  refine g_if_eq (tgt := 183) hX dX8_scan_92 (by decide) (fun c_92 => ?_) (fun c_92 => ?_)
                  · refine g_iinc hX (nI (t + 1)) [(5, .int (nI (t + 1))), (6, .int 1), (4, .int (nI r)), (3, .ref (a2 (5000 + j))), (2, .ref (a2 8)), (0, .ref (a2 0)), (1, .int (nI j))] (k := 1) rfl (g_inc t) rfl dX8_scan_183 (by decide) ?_
                    refine g_goto (tgt := 36) hX dX8_scan_186 (by decide) ?_
                    skip
                    refine g_lv [0, 2, 3, 4, 5, 6] rfl ?_
                    exact ih_36 (t + 1) xs2 a2 (by omega) (by omega) (by rw [scT, if_pos c_92]; exact hx2) (hag2)
                  · refine g_iload hX 0 rfl dX8_scan_95 ?_
                    refine g_if_eq (tgt := 103) hX dX8_scan_97 (by decide) (fun c_97 => ?_) (fun c_97 => ?_)
                    · first | exact absurd c_97 (by decide) | exact absurd (by decide) c_97
                    · refine g_goto (tgt := 183) hX dX8_scan_100 (by decide) ?_
                      refine g_iinc hX (nI (t + 1)) [(5, .int (nI (t + 1))), (6, .int 1), (4, .int (nI r)), (3, .ref (a2 (5000 + j))), (2, .ref (a2 8)), (0, .ref (a2 0)), (1, .int (nI j))] (k := 1) rfl (g_inc t) rfl dX8_scan_183 (by decide) ?_
                      refine g_goto (tgt := 36) hX dX8_scan_186 (by decide) ?_
                      skip
                      refine g_lv [0, 2, 3, 4, 5, 6] rfl ?_
                      exact ih_36 (t + 1) xs2 a2 (by omega) (by omega) (by rw [scT, if_neg c_92, if_neg (show ¬ goM M j r t = 0 from (by rw [goM, if_neg c_45, if_neg c_57]; decide))]; exact hx2) (hag2)
                · refine g_iload hX 1 rfl dX8_scan_60 ?_
                  refine g_iconst hX (1) dX8_scan_62 rfl ?_
                  refine g_icmp_le (tgt := 82) hX dX8_scan_63 (by decide) (fun c_63 => ?_) (fun c_63 => ?_)
                  · have c_63 : r ≤ 1 := (nI_leI (a := r) (b := 1) (by omega) (by omega)).mp c_63
                    refine g_iconst hX (0) dX8_scan_82 rfl ?_
                    refine g_istore hX [(6, .int 0), (5, .int (nI t)), (4, .int (nI r)), (3, .ref (a2 (5000 + j))), (2, .ref (a2 8)), (0, .ref (a2 0)), (1, .int (nI j))] rfl dX8_scan_83 (by decide) ?_
                    refine g_aload_n hX 3 rfl dX8_scan_85 rfl ?_
                    refine g_iload hX 2 rfl dX8_scan_86 ?_
                    refine h_aald26 (i := (5000 + j)) hX r rfl (by rw [mN_o (by have := hS.1; omega)]; omega) (by rw [mN_o (by have := hS.1; omega)]; decide) (j := (6000 + 200 * j + r)) ((congrFun (scR_n (by omega) (by omega) hn2) r).trans (mR_o (by have := hS.1; omega) (by omega))) (scL_mem.mpr (Or.inl (m_o hS hj))) (mK_o (by have := hS.1; omega)) dX8_scan_88 ?_
                    refine g_iload hX 1 rfl dX8_scan_89 ?_
                    refine h_zald (i := (6000 + 200 * j + r)) hX t rfl (by rw [mN_r (by have := hS.1; omega) (by omega)]; omega) (by rw [mN_r (by have := hS.1; omega) (by omega)]; decide) (scL_mem.mpr (Or.inl (m_r hS hj (by omega)))) (mK_r (by have := hS.1; omega) (by omega)) dX8_scan_91 ?_
                    refine g_eqi (y := (M (6000 + 200 * j + r) t)) (congrFun (scI_n (xs := xs2) (by omega) (by omega)) t) ?_
                    refine g_if_eq (tgt := 183) hX dX8_scan_92 (by decide) (fun c_92 => ?_) (fun c_92 => ?_)
                    · refine g_iinc hX (nI (t + 1)) [(5, .int (nI (t + 1))), (6, .int 0), (4, .int (nI r)), (3, .ref (a2 (5000 + j))), (2, .ref (a2 8)), (0, .ref (a2 0)), (1, .int (nI j))] (k := 1) rfl (g_inc t) rfl dX8_scan_183 (by decide) ?_
                      refine g_goto (tgt := 36) hX dX8_scan_186 (by decide) ?_
                      skip
                      refine g_lv [0, 2, 3, 4, 5, 6] rfl ?_
                      exact ih_36 (t + 1) xs2 a2 (by omega) (by omega) (by rw [scT, if_pos c_92]; exact hx2) (hag2)
                    · refine g_iload hX 0 rfl dX8_scan_95 ?_
                      refine g_if_eq (tgt := 103) hX dX8_scan_97 (by decide) (fun c_97 => ?_) (fun c_97 => ?_)
                      · have hgo0 : goM M j r t = 0 := (by rw [goM, if_neg c_45, if_pos c_57, if_pos c_63])
                        refine g_iload hX 2 rfl dX8_scan_103 ?_
                        refine g_istore hX [(7, .int (nI r)), (6, .int 0), (5, .int (nI t)), (4, .int (nI r)), (3, .ref (a2 (5000 + j))), (2, .ref (a2 8)), (0, .ref (a2 0)), (1, .int (nI j))] rfl dX8_scan_105 (by decide) ?_
                        refine g_iload hX 3 rfl dX8_scan_107 ?_
                        refine g_istore hX [(8, .int (nI r)), (7, .int (nI r)), (6, .int 0), (5, .int (nI t)), (4, .int (nI r)), (3, .ref (a2 (5000 + j))), (2, .ref (a2 8)), (0, .ref (a2 0)), (1, .int (nI j))] rfl dX8_scan_109 (by decide) ?_
                        have lp_111 : ∀ (n9 : Nat) (k : Nat) (q : Nat), 200 - k < n9 → (r ≤ k ∧ k ≤ 200) → (r ≤ q ∧ q ≤ k) → (lsM M j t (200 - k) k q = lsF M j r t) → GG X D a2 (scL S xs2.length) (pf dT mK mN (scI M xs2) (scR S xs2.length) a2) [(8, .int (nI k)), (7, .int (nI q)), (6, .int 0), (5, .int (nI t)), (4, .int (nI r)), (3, .ref (a2 (5000 + j))), (2, .ref (a2 8)), (0, .ref (a2 0)), (1, .int (nI j))] (1 + xs2.length + gNn xs2.length) (3 + 3 * xs2.length + gTn xs2.length) 111 [] := by
                          intro n9
                          induction n9 with
                          | zero => intro k q h9; exact absurd h9 (Nat.not_lt_zero _)
                          | succ n9 ih9 =>
                            intro k q h9 hk hq hl
                            have ih_111 := ih9
                            refine g_iload hX 0 rfl dX8_scan_111 ?_
                            refine g_sipush hX (200) dX8_scan_113 rfl ?_
                            refine g_icmp_ge (tgt := 153) hX dX8_scan_116 (by decide) (fun c_116 => ?_) (fun c_116 => ?_)
                            · have c_116 : 200 ≤ k := (nI_leI (a := 200) (b := k) (by omega) (by omega)).mp c_116
                              have hF : q = lsF M j r t := by
                                have h9 := hl
                                rw [show 200 - k = 0 by omega] at h9
                                exact h9
                              have hlt9 : xs2.length < 804 := by rw [hx2]; exact scT_lt (by omega) (by omega) c_92 hgo0
                              refine g_aload_n hX 6 rfl dX8_scan_153 rfl ?_
                              refine g_iconst hX (3) dX8_scan_154 rfl ?_
                              refine g_f (g := pf dT mK mN (upr (scI M xs2) (9000 + xs2.length) (fun _ => 0)) (scR S xs2.length) a2) (fun i hi => pf_I (upr_n (show i ≠ (9000 + xs2.length) from fun h => (scL_nin hn2) (h ▸ hi))).symm) ?_
                              refine g_newI hX (9000 + xs2.length) (scL_nin hn2) (scL_no hS hn2 (scL_nin hn2) (by omega)) 3 (mK_h (by omega)) mN_t (fun k9 => congrFun upr_s k9) (x := 3) rfl (by decide) q_w6 (by have := gN_le hn2; show _ ≤ 817; omega) (by have := gT_le hn2; show _ ≤ 4871; omega) dX8_scan_155 (fun qn9 => ?_)
                              obtain ⟨a10, ha10⟩ : ∃ z9, z9 = va_up a2 (9000 + xs2.length) qn9 := ⟨_, rfl⟩
                              have ga10 : ∀ i, i ∈ (scL S xs2.length) → a10 i = a2 i := fun i hi => by rw [ha10]; exact va_up_ne _ _ (fun h => (scL_nin hn2) (h ▸ hi))
                              rw [← ha10]
                              refine g_lvs (lv2 := [(8, .int (nI k)), (7, .int (nI q)), (6, .int 0), (5, .int (nI t)), (4, .int (nI r)), (3, .ref (a10 (5000 + j))), (2, .ref (a10 8)), (0, .ref (a10 0)), (1, .int (nI j))]) (st2 := [.ref (a10 (9000 + xs2.length)), .ref (a10 8)]) (by rw [ga10 (5000 + j) (scL_mem.mpr (Or.inl (m_o hS hj))), ga10 8 (scL_mem.mpr (Or.inr (Or.inl rfl))), ga10 0 (scL_mem.mpr (Or.inl (m_lo (by decide))))]) (by rw [ga10 8 (scL_mem.mpr (Or.inr (Or.inl rfl)))]) ?_
                              have aga10 : AGm (mL S) ad a10 := by rw [ha10]; exact AGm_new hag2 (f_t (by omega)) (by omega)
                              refine g_dup hX dX8_scan_157 rfl ?_
                              refine g_iconst hX (0) dX8_scan_158 rfl ?_
                              refine g_iload hX 4 rfl dX8_scan_159 ?_
                              refine h_iast (i := (9000 + xs2.length)) hX 0 rfl (by rw [mN_t]; omega) (by rw [mN_t]; decide) (List.mem_append_right _ (List.mem_singleton.mpr rfl)) (mK_h (by omega)) dX8_scan_161 ?_
                              refine g_dup hX dX8_scan_162 rfl ?_
                              refine g_iconst hX (1) dX8_scan_163 rfl ?_
                              refine g_iload hX 1 rfl dX8_scan_164 ?_
                              refine g_iload hX 4 rfl dX8_scan_166 ?_
                              refine g_isub hX dX8_scan_168 ?_
                              refine g_iconst hX (1) dX8_scan_169 rfl ?_
                              refine g_iadd hX dX8_scan_170 ?_
                              refine g_eqi (y := nI (q - r + 1)) (len1 (by omega)) ?_
                              refine h_iast (i := (9000 + xs2.length)) hX 1 rfl (by rw [mN_t]; omega) (by rw [mN_t]; decide) (List.mem_append_right _ (List.mem_singleton.mpr rfl)) (mK_h (by omega)) dX8_scan_171 ?_
                              refine g_dup hX dX8_scan_172 rfl ?_
                              refine g_iconst hX (2) dX8_scan_173 rfl ?_
                              refine g_iload hX 3 rfl dX8_scan_174 ?_
                              refine h_iast (i := (9000 + xs2.length)) hX 2 rfl (by rw [mN_t]; omega) (by rw [mN_t]; decide) (List.mem_append_right _ (List.mem_singleton.mpr rfl)) (mK_h (by omega)) dX8_scan_176 ?_
                              refine b_callI_F hX hM (b := 8) [.ref (a10 (9000 + xs2.length))] (List.mem_append_left _ (scL_mem.mpr (Or.inr (Or.inl rfl)))) (pf_obj rfl (by decide)) rfl (k_add8 (up2 (up2 (up2 (upr (scI M xs2) (9000 + xs2.length) (fun _ => 0)) (9000 + xs2.length) 0 (nI r)) (9000 + xs2.length) 1 (nI (q - r + 1))) (9000 + xs2.length) 2 (nI t)) S hS xs2.length hlt9 ((up2_n (Or.inl (by omega))).trans ((up2_n (Or.inl (by omega))).trans ((up2_n (Or.inl (by omega))).trans ((congrFun (upr_n (by omega)) 2).trans scI_82)))) (AGm_z aga10 hz)) gX8_scan_Jx4a65c_add_9ea2d_f70Jx4a65c (by decide +kernel) rfl rfl rfl hdF_add ⟨Nat.le_of_ble_eq_true rfl, Nat.le_of_ble_eq_true rfl⟩ ⟨by have h5 := gN_le (n := xs2.length + 1) (by omega); have h6 : gNn (xs2.length + 1) = gNn xs2.length + gC xs2.length (cap xs2.length) := rfl; show _ ≤ 817; omega, by have h5 := gT_le (n := xs2.length + 1) (by omega); have h6 : gTn (xs2.length + 1) = gTn xs2.length + gS xs2.length (cap xs2.length) := rfl; show _ ≤ 4871; omega⟩ rfl (Nat.le_of_ble_eq_true rfl) dX8_scan_177 (fun r9 a11 L9 f9 hp9 => ?_)
                              obtain ⟨⟨x9, ga11, he9⟩, hr9⟩ := hp9
                              cases he9
                              subst hr9
                              have aga11 : AGm (mL S) ad a11 := fun i hi h6 h1 => (ga11 i (by rcases hi with w | w; have := mL_84 hS w; omega; omega)).trans (aga10 i hi h6 h1)
                              refine g_lvs (lv2 := [(8, .int (nI k)), (7, .int (nI q)), (6, .int 0), (5, .int (nI t)), (4, .int (nI r)), (3, .ref (a11 (5000 + j))), (2, .ref (a11 8)), (0, .ref (a11 0)), (1, .int (nI j))]) (st2 := [.int 1]) (by rw [ga11 (5000 + j) (by omega), ga11 8 (by omega), ga11 0 (by omega)]) rfl ?_
                              rw [show (up2 (up2 (up2 (upr (scI M xs2) (9000 + xs2.length) (fun _ => 0)) (9000 + xs2.length) 0 (nI r)) (9000 + xs2.length) 1 (nI (q - r + 1))) (9000 + xs2.length) 2 (nI t)) 8 0 = nI xs2.length from ((up2_n (Or.inl (by omega))).trans ((up2_n (Or.inl (by omega))).trans ((up2_n (Or.inl (by omega))).trans ((congrFun (upr_n (by omega)) 0).trans scI_80)))), scI_add, show xs2.length + 1 = (xs2 ++ [(r, q - r + 1, t)]).length from by rw [List.length_append, List.length_singleton]]
                              refine g_pop hX dX8_scan_182 rfl ?_
                              refine g_iinc hX (nI (t + 1)) [(5, .int (nI (t + 1))), (8, .int (nI k)), (7, .int (nI q)), (6, .int 0), (4, .int (nI r)), (3, .ref (a11 (5000 + j))), (2, .ref (a11 8)), (0, .ref (a11 0)), (1, .int (nI j))] (k := 3) rfl (g_inc t) rfl dX8_scan_183 (by decide) ?_
                              refine g_goto (tgt := 36) hX dX8_scan_186 (by decide) ?_
                              refine g_widen (k := 1 + (xs2 ++ [(r, q - r + 1, t)]).length + gNn (xs2 ++ [(r, q - r + 1, t)]).length) (n := 3 + 3 * (xs2 ++ [(r, q - r + 1, t)]).length + gTn (xs2 ++ [(r, q - r + 1, t)]).length) (by rw [show (xs2 ++ [(r, q - r + 1, t)]).length = xs2.length + 1 from by rw [List.length_append, List.length_singleton]]; show _ ≤ 1 + (xs2.length + 1) + (gNn xs2.length + gC xs2.length (cap xs2.length)); omega) (by rw [show (xs2 ++ [(r, q - r + 1, t)]).length = xs2.length + 1 from by rw [List.length_append, List.length_singleton]]; show _ ≤ 3 + 3 * (xs2.length + 1) + (gTn xs2.length + gS xs2.length (cap xs2.length)); omega) ?_
                              skip
                              refine g_lv [0, 4, 5, 6, 7, 8] rfl ?_
                              exact ih_36 (t + 1) (xs2 ++ [(r, q - r + 1, t)]) a11 (by omega) (by omega) (by rw [scT, if_neg c_92, if_pos (show goM M j r t = 0 from hgo0), hx2, hF]) (aga11)
                            · have c_116 : ¬ 200 ≤ k := fun h9 => c_116 ((nI_leI (a := 200) (b := k) (by omega) (by omega)).mpr h9)
                              refine g_iload hX 0 rfl dX8_scan_119 ?_
                              refine g_iload hX 1 rfl dX8_scan_121 ?_
                              refine g_iconst hX (2) dX8_scan_123 rfl ?_
                              refine g_iadd hX dX8_scan_124 ?_
                              refine g_eqi (y := nI (q + 2)) (nI_add q 2) ?_
                              refine g_icmp_gt (tgt := 153) hX dX8_scan_125 (by decide) (fun c_125 => ?_) (fun c_125 => ?_)
                              · have c_125 : (q + 2) < k := (nI_ltI (a := (q + 2)) (b := k) (by omega) (by omega)).mp c_125
                                have hF : q = lsF M j r t := by
                                  have h9 := hl
                                  rw [show 200 - k = (200 - (k + 1)) + 1 by omega, lsM, if_pos c_125] at h9
                                  exact h9
                                have hlt9 : xs2.length < 804 := by rw [hx2]; exact scT_lt (by omega) (by omega) c_92 hgo0
                                refine g_aload_n hX 6 rfl dX8_scan_153 rfl ?_
                                refine g_iconst hX (3) dX8_scan_154 rfl ?_
                                refine g_f (g := pf dT mK mN (upr (scI M xs2) (9000 + xs2.length) (fun _ => 0)) (scR S xs2.length) a2) (fun i hi => pf_I (upr_n (show i ≠ (9000 + xs2.length) from fun h => (scL_nin hn2) (h ▸ hi))).symm) ?_
                                refine g_newI hX (9000 + xs2.length) (scL_nin hn2) (scL_no hS hn2 (scL_nin hn2) (by omega)) 3 (mK_h (by omega)) mN_t (fun k9 => congrFun upr_s k9) (x := 3) rfl (by decide) q_w6 (by have := gN_le hn2; show _ ≤ 817; omega) (by have := gT_le hn2; show _ ≤ 4871; omega) dX8_scan_155 (fun qn12 => ?_)
                                obtain ⟨a13, ha13⟩ : ∃ z9, z9 = va_up a2 (9000 + xs2.length) qn12 := ⟨_, rfl⟩
                                have ga13 : ∀ i, i ∈ (scL S xs2.length) → a13 i = a2 i := fun i hi => by rw [ha13]; exact va_up_ne _ _ (fun h => (scL_nin hn2) (h ▸ hi))
                                rw [← ha13]
                                refine g_lvs (lv2 := [(8, .int (nI k)), (7, .int (nI q)), (6, .int 0), (5, .int (nI t)), (4, .int (nI r)), (3, .ref (a13 (5000 + j))), (2, .ref (a13 8)), (0, .ref (a13 0)), (1, .int (nI j))]) (st2 := [.ref (a13 (9000 + xs2.length)), .ref (a13 8)]) (by rw [ga13 (5000 + j) (scL_mem.mpr (Or.inl (m_o hS hj))), ga13 8 (scL_mem.mpr (Or.inr (Or.inl rfl))), ga13 0 (scL_mem.mpr (Or.inl (m_lo (by decide))))]) (by rw [ga13 8 (scL_mem.mpr (Or.inr (Or.inl rfl)))]) ?_
                                have aga13 : AGm (mL S) ad a13 := by rw [ha13]; exact AGm_new hag2 (f_t (by omega)) (by omega)
                                refine g_dup hX dX8_scan_157 rfl ?_
                                refine g_iconst hX (0) dX8_scan_158 rfl ?_
                                refine g_iload hX 4 rfl dX8_scan_159 ?_
                                refine h_iast (i := (9000 + xs2.length)) hX 0 rfl (by rw [mN_t]; omega) (by rw [mN_t]; decide) (List.mem_append_right _ (List.mem_singleton.mpr rfl)) (mK_h (by omega)) dX8_scan_161 ?_
                                refine g_dup hX dX8_scan_162 rfl ?_
                                refine g_iconst hX (1) dX8_scan_163 rfl ?_
                                refine g_iload hX 1 rfl dX8_scan_164 ?_
                                refine g_iload hX 4 rfl dX8_scan_166 ?_
                                refine g_isub hX dX8_scan_168 ?_
                                refine g_iconst hX (1) dX8_scan_169 rfl ?_
                                refine g_iadd hX dX8_scan_170 ?_
                                refine g_eqi (y := nI (q - r + 1)) (len1 (by omega)) ?_
                                refine h_iast (i := (9000 + xs2.length)) hX 1 rfl (by rw [mN_t]; omega) (by rw [mN_t]; decide) (List.mem_append_right _ (List.mem_singleton.mpr rfl)) (mK_h (by omega)) dX8_scan_171 ?_
                                refine g_dup hX dX8_scan_172 rfl ?_
                                refine g_iconst hX (2) dX8_scan_173 rfl ?_
                                refine g_iload hX 3 rfl dX8_scan_174 ?_
                                refine h_iast (i := (9000 + xs2.length)) hX 2 rfl (by rw [mN_t]; omega) (by rw [mN_t]; decide) (List.mem_append_right _ (List.mem_singleton.mpr rfl)) (mK_h (by omega)) dX8_scan_176 ?_
                                refine b_callI_F hX hM (b := 8) [.ref (a13 (9000 + xs2.length))] (List.mem_append_left _ (scL_mem.mpr (Or.inr (Or.inl rfl)))) (pf_obj rfl (by decide)) rfl (k_add8 (up2 (up2 (up2 (upr (scI M xs2) (9000 + xs2.length) (fun _ => 0)) (9000 + xs2.length) 0 (nI r)) (9000 + xs2.length) 1 (nI (q - r + 1))) (9000 + xs2.length) 2 (nI t)) S hS xs2.length hlt9 ((up2_n (Or.inl (by omega))).trans ((up2_n (Or.inl (by omega))).trans ((up2_n (Or.inl (by omega))).trans ((congrFun (upr_n (by omega)) 2).trans scI_82)))) (AGm_z aga13 hz)) gX8_scan_Jx4a65c_add_9ea2d_f70Jx4a65c (by decide +kernel) rfl rfl rfl hdF_add ⟨Nat.le_of_ble_eq_true rfl, Nat.le_of_ble_eq_true rfl⟩ ⟨by have h5 := gN_le (n := xs2.length + 1) (by omega); have h6 : gNn (xs2.length + 1) = gNn xs2.length + gC xs2.length (cap xs2.length) := rfl; show _ ≤ 817; omega, by have h5 := gT_le (n := xs2.length + 1) (by omega); have h6 : gTn (xs2.length + 1) = gTn xs2.length + gS xs2.length (cap xs2.length) := rfl; show _ ≤ 4871; omega⟩ rfl (Nat.le_of_ble_eq_true rfl) dX8_scan_177 (fun r9 a14 L9 f9 hp9 => ?_)
                                obtain ⟨⟨x9, ga14, he9⟩, hr9⟩ := hp9
                                cases he9
                                subst hr9
                                have aga14 : AGm (mL S) ad a14 := fun i hi h6 h1 => (ga14 i (by rcases hi with w | w; have := mL_84 hS w; omega; omega)).trans (aga13 i hi h6 h1)
                                refine g_lvs (lv2 := [(8, .int (nI k)), (7, .int (nI q)), (6, .int 0), (5, .int (nI t)), (4, .int (nI r)), (3, .ref (a14 (5000 + j))), (2, .ref (a14 8)), (0, .ref (a14 0)), (1, .int (nI j))]) (st2 := [.int 1]) (by rw [ga14 (5000 + j) (by omega), ga14 8 (by omega), ga14 0 (by omega)]) rfl ?_
                                rw [show (up2 (up2 (up2 (upr (scI M xs2) (9000 + xs2.length) (fun _ => 0)) (9000 + xs2.length) 0 (nI r)) (9000 + xs2.length) 1 (nI (q - r + 1))) (9000 + xs2.length) 2 (nI t)) 8 0 = nI xs2.length from ((up2_n (Or.inl (by omega))).trans ((up2_n (Or.inl (by omega))).trans ((up2_n (Or.inl (by omega))).trans ((congrFun (upr_n (by omega)) 0).trans scI_80)))), scI_add, show xs2.length + 1 = (xs2 ++ [(r, q - r + 1, t)]).length from by rw [List.length_append, List.length_singleton]]
                                refine g_pop hX dX8_scan_182 rfl ?_
                                refine g_iinc hX (nI (t + 1)) [(5, .int (nI (t + 1))), (8, .int (nI k)), (7, .int (nI q)), (6, .int 0), (4, .int (nI r)), (3, .ref (a14 (5000 + j))), (2, .ref (a14 8)), (0, .ref (a14 0)), (1, .int (nI j))] (k := 3) rfl (g_inc t) rfl dX8_scan_183 (by decide) ?_
                                refine g_goto (tgt := 36) hX dX8_scan_186 (by decide) ?_
                                refine g_widen (k := 1 + (xs2 ++ [(r, q - r + 1, t)]).length + gNn (xs2 ++ [(r, q - r + 1, t)]).length) (n := 3 + 3 * (xs2 ++ [(r, q - r + 1, t)]).length + gTn (xs2 ++ [(r, q - r + 1, t)]).length) (by rw [show (xs2 ++ [(r, q - r + 1, t)]).length = xs2.length + 1 from by rw [List.length_append, List.length_singleton]]; show _ ≤ 1 + (xs2.length + 1) + (gNn xs2.length + gC xs2.length (cap xs2.length)); omega) (by rw [show (xs2 ++ [(r, q - r + 1, t)]).length = xs2.length + 1 from by rw [List.length_append, List.length_singleton]]; show _ ≤ 3 + 3 * (xs2.length + 1) + (gTn xs2.length + gS xs2.length (cap xs2.length)); omega) ?_
                                skip
                                refine g_lv [0, 4, 5, 6, 7, 8] rfl ?_
                                exact ih_36 (t + 1) (xs2 ++ [(r, q - r + 1, t)]) a14 (by omega) (by omega) (by rw [scT, if_neg c_92, if_pos (show goM M j r t = 0 from hgo0), hx2, hF]) (aga14)
                              · have c_125 : ¬ (q + 2) < k := fun h9 => c_125 ((nI_ltI (a := (q + 2)) (b := k) (by omega) (by omega)).mpr h9)
                                refine g_aload_n hX 5 rfl dX8_scan_128 rfl ?_
                                refine g_iload hX 0 rfl dX8_scan_129 ?_
                                refine h_aald26 (i := (5000 + j)) hX k rfl (by rw [mN_o (by have := hS.1; omega)]; omega) (by rw [mN_o (by have := hS.1; omega)]; decide) (j := (6000 + 200 * j + k)) ((congrFun (scR_n (by omega) (by omega) hn2) k).trans (mR_o (by have := hS.1; omega) (by omega))) (scL_mem.mpr (Or.inl (m_o hS hj))) (mK_o (by have := hS.1; omega)) dX8_scan_131 ?_
                                refine g_iload hX 3 rfl dX8_scan_132 ?_
                                refine h_zald (i := (6000 + 200 * j + k)) hX t rfl (by rw [mN_r (by have := hS.1; omega) (by omega)]; omega) (by rw [mN_r (by have := hS.1; omega) (by omega)]; decide) (scL_mem.mpr (Or.inl (m_r hS hj (by omega)))) (mK_r (by have := hS.1; omega) (by omega)) dX8_scan_134 ?_
                                refine g_eqi (y := (M (6000 + 200 * j + k) t)) (congrFun (scI_n (xs := xs2) (by omega) (by omega)) t) ?_
                                refine g_if_eq (tgt := 143) hX dX8_scan_135 (by decide) (fun c_135 => ?_) (fun c_135 => ?_)
                                · refine g_iload hX 1 rfl dX8_scan_143 ?_
                                  refine g_istore hX [(7, .int (nI q)), (8, .int (nI k)), (6, .int 0), (5, .int (nI t)), (4, .int (nI r)), (3, .ref (a2 (5000 + j))), (2, .ref (a2 8)), (0, .ref (a2 0)), (1, .int (nI j))] rfl dX8_scan_145 (by decide) ?_
                                  refine g_iinc hX (nI (k + 1)) [(8, .int (nI (k + 1))), (7, .int (nI q)), (6, .int 0), (5, .int (nI t)), (4, .int (nI r)), (3, .ref (a2 (5000 + j))), (2, .ref (a2 8)), (0, .ref (a2 0)), (1, .int (nI j))] (k := 1) rfl (g_inc k) rfl dX8_scan_147 (by decide) ?_
                                  refine g_goto (tgt := 111) hX dX8_scan_150 (by decide) ?_
                                  refine g_lv [0, 1, 2, 3, 4, 5, 6, 7, 8] rfl ?_
                                  exact ih_111 (k + 1) q (by omega) (by omega) (by omega) (by have h9 := hl; rw [show 200 - k = (200 - (k + 1)) + 1 by omega, lsM, if_neg c_125, if_pos c_135] at h9; exact h9)
                                · refine g_iload hX 0 rfl dX8_scan_138 ?_
                                  refine g_goto (tgt := 145) hX dX8_scan_140 (by decide) ?_
                                  refine g_istore hX [(7, .int (nI k)), (8, .int (nI k)), (6, .int 0), (5, .int (nI t)), (4, .int (nI r)), (3, .ref (a2 (5000 + j))), (2, .ref (a2 8)), (0, .ref (a2 0)), (1, .int (nI j))] rfl dX8_scan_145 (by decide) ?_
                                  refine g_iinc hX (nI (k + 1)) [(8, .int (nI (k + 1))), (7, .int (nI k)), (6, .int 0), (5, .int (nI t)), (4, .int (nI r)), (3, .ref (a2 (5000 + j))), (2, .ref (a2 8)), (0, .ref (a2 0)), (1, .int (nI j))] (k := 1) rfl (g_inc k) rfl dX8_scan_147 (by decide) ?_
                                  refine g_goto (tgt := 111) hX dX8_scan_150 (by decide) ?_
                                  refine g_lv [0, 1, 2, 3, 4, 5, 6, 7, 8] rfl ?_
                                  exact ih_111 (k + 1) k (by omega) (by omega) (by omega) (by have h9 := hl; rw [show 200 - k = (200 - (k + 1)) + 1 by omega, lsM, if_neg c_125, if_neg c_135] at h9; exact h9)
                        refine g_lv [0, 1, 2, 3, 4, 5, 6, 7, 8] rfl ?_
                        exact lp_111 _ r r (Nat.lt_succ_self _) (by omega) (by omega) rfl
                      · first | exact absurd c_97 (by decide) | exact absurd (by decide) c_97
                  · have c_63 : ¬ r ≤ 1 := fun h9 => c_63 ((nI_leI (a := r) (b := 1) (by omega) (by omega)).mpr h9)
                    refine g_aload_n hX 2 rfl dX8_scan_66 rfl ?_
                    refine g_iload hX 1 rfl dX8_scan_67 ?_
                    refine g_iconst hX (2) dX8_scan_69 rfl ?_
                    refine g_isub hX dX8_scan_70 ?_
                    refine g_eqi (y := nI (r - 2)) (sub2 (by omega)) ?_
                    refine h_aald26 (i := (5000 + j)) hX (r - 2) rfl (by rw [mN_o (by have := hS.1; omega)]; omega) (by rw [mN_o (by have := hS.1; omega)]; decide) (j := (6000 + 200 * j + (r - 2))) ((congrFun (scR_n (by omega) (by omega) hn2) (r - 2)).trans (mR_o (by have := hS.1; omega) (by omega))) (scL_mem.mpr (Or.inl (m_o hS hj))) (mK_o (by have := hS.1; omega)) dX8_scan_71 ?_
                    refine g_iload hX 0 rfl dX8_scan_72 ?_
                    refine h_zald (i := (6000 + 200 * j + (r - 2))) hX t rfl (by rw [mN_r (by have := hS.1; omega) (by omega)]; omega) (by rw [mN_r (by have := hS.1; omega) (by omega)]; decide) (scL_mem.mpr (Or.inl (m_r hS hj (by omega)))) (mK_r (by have := hS.1; omega) (by omega)) dX8_scan_74 ?_
                    refine g_eqi (y := (M (6000 + 200 * j + (r - 2)) t)) (congrFun (scI_n (xs := xs2) (by omega) (by omega)) t) ?_
                    refine g_if_eq (tgt := 82) hX dX8_scan_75 (by decide) (fun c_75 => ?_) (fun c_75 => ?_)
                    · refine g_iconst hX (0) dX8_scan_82 rfl ?_
                      refine g_istore hX [(6, .int 0), (5, .int (nI t)), (4, .int (nI r)), (3, .ref (a2 (5000 + j))), (2, .ref (a2 8)), (0, .ref (a2 0)), (1, .int (nI j))] rfl dX8_scan_83 (by decide) ?_
                      refine g_aload_n hX 3 rfl dX8_scan_85 rfl ?_
                      refine g_iload hX 2 rfl dX8_scan_86 ?_
                      refine h_aald26 (i := (5000 + j)) hX r rfl (by rw [mN_o (by have := hS.1; omega)]; omega) (by rw [mN_o (by have := hS.1; omega)]; decide) (j := (6000 + 200 * j + r)) ((congrFun (scR_n (by omega) (by omega) hn2) r).trans (mR_o (by have := hS.1; omega) (by omega))) (scL_mem.mpr (Or.inl (m_o hS hj))) (mK_o (by have := hS.1; omega)) dX8_scan_88 ?_
                      refine g_iload hX 1 rfl dX8_scan_89 ?_
                      refine h_zald (i := (6000 + 200 * j + r)) hX t rfl (by rw [mN_r (by have := hS.1; omega) (by omega)]; omega) (by rw [mN_r (by have := hS.1; omega) (by omega)]; decide) (scL_mem.mpr (Or.inl (m_r hS hj (by omega)))) (mK_r (by have := hS.1; omega) (by omega)) dX8_scan_91 ?_
                      refine g_eqi (y := (M (6000 + 200 * j + r) t)) (congrFun (scI_n (xs := xs2) (by omega) (by omega)) t) ?_
                      refine g_if_eq (tgt := 183) hX dX8_scan_92 (by decide) (fun c_92 => ?_) (fun c_92 => ?_)
                      · refine g_iinc hX (nI (t + 1)) [(5, .int (nI (t + 1))), (6, .int 0), (4, .int (nI r)), (3, .ref (a2 (5000 + j))), (2, .ref (a2 8)), (0, .ref (a2 0)), (1, .int (nI j))] (k := 1) rfl (g_inc t) rfl dX8_scan_183 (by decide) ?_
                        refine g_goto (tgt := 36) hX dX8_scan_186 (by decide) ?_
                        skip
                        refine g_lv [0, 2, 3, 4, 5, 6] rfl ?_
                        exact ih_36 (t + 1) xs2 a2 (by omega) (by omega) (by rw [scT, if_pos c_92]; exact hx2) (hag2)
                      · refine g_iload hX 0 rfl dX8_scan_95 ?_
                        refine g_if_eq (tgt := 103) hX dX8_scan_97 (by decide) (fun c_97 => ?_) (fun c_97 => ?_)
                        · have hgo0 : goM M j r t = 0 := (by rw [goM, if_neg c_45, if_pos c_57, if_neg c_63, if_pos c_75])
                          refine g_iload hX 2 rfl dX8_scan_103 ?_
                          refine g_istore hX [(7, .int (nI r)), (6, .int 0), (5, .int (nI t)), (4, .int (nI r)), (3, .ref (a2 (5000 + j))), (2, .ref (a2 8)), (0, .ref (a2 0)), (1, .int (nI j))] rfl dX8_scan_105 (by decide) ?_
                          refine g_iload hX 3 rfl dX8_scan_107 ?_
                          refine g_istore hX [(8, .int (nI r)), (7, .int (nI r)), (6, .int 0), (5, .int (nI t)), (4, .int (nI r)), (3, .ref (a2 (5000 + j))), (2, .ref (a2 8)), (0, .ref (a2 0)), (1, .int (nI j))] rfl dX8_scan_109 (by decide) ?_
                          have lp_111 : ∀ (n9 : Nat) (k : Nat) (q : Nat), 200 - k < n9 → (r ≤ k ∧ k ≤ 200) → (r ≤ q ∧ q ≤ k) → (lsM M j t (200 - k) k q = lsF M j r t) → GG X D a2 (scL S xs2.length) (pf dT mK mN (scI M xs2) (scR S xs2.length) a2) [(8, .int (nI k)), (7, .int (nI q)), (6, .int 0), (5, .int (nI t)), (4, .int (nI r)), (3, .ref (a2 (5000 + j))), (2, .ref (a2 8)), (0, .ref (a2 0)), (1, .int (nI j))] (1 + xs2.length + gNn xs2.length) (3 + 3 * xs2.length + gTn xs2.length) 111 [] := by
                            intro n9
                            induction n9 with
                            | zero => intro k q h9; exact absurd h9 (Nat.not_lt_zero _)
                            | succ n9 ih9 =>
                              intro k q h9 hk hq hl
                              have ih_111 := ih9
                              refine g_iload hX 0 rfl dX8_scan_111 ?_
                              refine g_sipush hX (200) dX8_scan_113 rfl ?_
                              refine g_icmp_ge (tgt := 153) hX dX8_scan_116 (by decide) (fun c_116 => ?_) (fun c_116 => ?_)
                              · have c_116 : 200 ≤ k := (nI_leI (a := 200) (b := k) (by omega) (by omega)).mp c_116
                                have hF : q = lsF M j r t := by
                                  have h9 := hl
                                  rw [show 200 - k = 0 by omega] at h9
                                  exact h9
                                have hlt9 : xs2.length < 804 := by rw [hx2]; exact scT_lt (by omega) (by omega) c_92 hgo0
                                refine g_aload_n hX 6 rfl dX8_scan_153 rfl ?_
                                refine g_iconst hX (3) dX8_scan_154 rfl ?_
                                refine g_f (g := pf dT mK mN (upr (scI M xs2) (9000 + xs2.length) (fun _ => 0)) (scR S xs2.length) a2) (fun i hi => pf_I (upr_n (show i ≠ (9000 + xs2.length) from fun h => (scL_nin hn2) (h ▸ hi))).symm) ?_
                                refine g_newI hX (9000 + xs2.length) (scL_nin hn2) (scL_no hS hn2 (scL_nin hn2) (by omega)) 3 (mK_h (by omega)) mN_t (fun k9 => congrFun upr_s k9) (x := 3) rfl (by decide) q_w6 (by have := gN_le hn2; show _ ≤ 817; omega) (by have := gT_le hn2; show _ ≤ 4871; omega) dX8_scan_155 (fun qn15 => ?_)
                                obtain ⟨a16, ha16⟩ : ∃ z9, z9 = va_up a2 (9000 + xs2.length) qn15 := ⟨_, rfl⟩
                                have ga16 : ∀ i, i ∈ (scL S xs2.length) → a16 i = a2 i := fun i hi => by rw [ha16]; exact va_up_ne _ _ (fun h => (scL_nin hn2) (h ▸ hi))
                                rw [← ha16]
                                refine g_lvs (lv2 := [(8, .int (nI k)), (7, .int (nI q)), (6, .int 0), (5, .int (nI t)), (4, .int (nI r)), (3, .ref (a16 (5000 + j))), (2, .ref (a16 8)), (0, .ref (a16 0)), (1, .int (nI j))]) (st2 := [.ref (a16 (9000 + xs2.length)), .ref (a16 8)]) (by rw [ga16 (5000 + j) (scL_mem.mpr (Or.inl (m_o hS hj))), ga16 8 (scL_mem.mpr (Or.inr (Or.inl rfl))), ga16 0 (scL_mem.mpr (Or.inl (m_lo (by decide))))]) (by rw [ga16 8 (scL_mem.mpr (Or.inr (Or.inl rfl)))]) ?_
                                have aga16 : AGm (mL S) ad a16 := by rw [ha16]; exact AGm_new hag2 (f_t (by omega)) (by omega)
                                refine g_dup hX dX8_scan_157 rfl ?_
                                refine g_iconst hX (0) dX8_scan_158 rfl ?_
                                refine g_iload hX 4 rfl dX8_scan_159 ?_
                                refine h_iast (i := (9000 + xs2.length)) hX 0 rfl (by rw [mN_t]; omega) (by rw [mN_t]; decide) (List.mem_append_right _ (List.mem_singleton.mpr rfl)) (mK_h (by omega)) dX8_scan_161 ?_
                                refine g_dup hX dX8_scan_162 rfl ?_
                                refine g_iconst hX (1) dX8_scan_163 rfl ?_
                                refine g_iload hX 1 rfl dX8_scan_164 ?_
                                refine g_iload hX 4 rfl dX8_scan_166 ?_
                                refine g_isub hX dX8_scan_168 ?_
                                refine g_iconst hX (1) dX8_scan_169 rfl ?_
                                refine g_iadd hX dX8_scan_170 ?_
                                refine g_eqi (y := nI (q - r + 1)) (len1 (by omega)) ?_
                                refine h_iast (i := (9000 + xs2.length)) hX 1 rfl (by rw [mN_t]; omega) (by rw [mN_t]; decide) (List.mem_append_right _ (List.mem_singleton.mpr rfl)) (mK_h (by omega)) dX8_scan_171 ?_
                                refine g_dup hX dX8_scan_172 rfl ?_
                                refine g_iconst hX (2) dX8_scan_173 rfl ?_
                                refine g_iload hX 3 rfl dX8_scan_174 ?_
                                refine h_iast (i := (9000 + xs2.length)) hX 2 rfl (by rw [mN_t]; omega) (by rw [mN_t]; decide) (List.mem_append_right _ (List.mem_singleton.mpr rfl)) (mK_h (by omega)) dX8_scan_176 ?_
                                refine b_callI_F hX hM (b := 8) [.ref (a16 (9000 + xs2.length))] (List.mem_append_left _ (scL_mem.mpr (Or.inr (Or.inl rfl)))) (pf_obj rfl (by decide)) rfl (k_add8 (up2 (up2 (up2 (upr (scI M xs2) (9000 + xs2.length) (fun _ => 0)) (9000 + xs2.length) 0 (nI r)) (9000 + xs2.length) 1 (nI (q - r + 1))) (9000 + xs2.length) 2 (nI t)) S hS xs2.length hlt9 ((up2_n (Or.inl (by omega))).trans ((up2_n (Or.inl (by omega))).trans ((up2_n (Or.inl (by omega))).trans ((congrFun (upr_n (by omega)) 2).trans scI_82)))) (AGm_z aga16 hz)) gX8_scan_Jx4a65c_add_9ea2d_f70Jx4a65c (by decide +kernel) rfl rfl rfl hdF_add ⟨Nat.le_of_ble_eq_true rfl, Nat.le_of_ble_eq_true rfl⟩ ⟨by have h5 := gN_le (n := xs2.length + 1) (by omega); have h6 : gNn (xs2.length + 1) = gNn xs2.length + gC xs2.length (cap xs2.length) := rfl; show _ ≤ 817; omega, by have h5 := gT_le (n := xs2.length + 1) (by omega); have h6 : gTn (xs2.length + 1) = gTn xs2.length + gS xs2.length (cap xs2.length) := rfl; show _ ≤ 4871; omega⟩ rfl (Nat.le_of_ble_eq_true rfl) dX8_scan_177 (fun r9 a17 L9 f9 hp9 => ?_)
                                obtain ⟨⟨x9, ga17, he9⟩, hr9⟩ := hp9
                                cases he9
                                subst hr9
                                have aga17 : AGm (mL S) ad a17 := fun i hi h6 h1 => (ga17 i (by rcases hi with w | w; have := mL_84 hS w; omega; omega)).trans (aga16 i hi h6 h1)
                                refine g_lvs (lv2 := [(8, .int (nI k)), (7, .int (nI q)), (6, .int 0), (5, .int (nI t)), (4, .int (nI r)), (3, .ref (a17 (5000 + j))), (2, .ref (a17 8)), (0, .ref (a17 0)), (1, .int (nI j))]) (st2 := [.int 1]) (by rw [ga17 (5000 + j) (by omega), ga17 8 (by omega), ga17 0 (by omega)]) rfl ?_
                                rw [show (up2 (up2 (up2 (upr (scI M xs2) (9000 + xs2.length) (fun _ => 0)) (9000 + xs2.length) 0 (nI r)) (9000 + xs2.length) 1 (nI (q - r + 1))) (9000 + xs2.length) 2 (nI t)) 8 0 = nI xs2.length from ((up2_n (Or.inl (by omega))).trans ((up2_n (Or.inl (by omega))).trans ((up2_n (Or.inl (by omega))).trans ((congrFun (upr_n (by omega)) 0).trans scI_80)))), scI_add, show xs2.length + 1 = (xs2 ++ [(r, q - r + 1, t)]).length from by rw [List.length_append, List.length_singleton]]
                                refine g_pop hX dX8_scan_182 rfl ?_
                                refine g_iinc hX (nI (t + 1)) [(5, .int (nI (t + 1))), (8, .int (nI k)), (7, .int (nI q)), (6, .int 0), (4, .int (nI r)), (3, .ref (a17 (5000 + j))), (2, .ref (a17 8)), (0, .ref (a17 0)), (1, .int (nI j))] (k := 3) rfl (g_inc t) rfl dX8_scan_183 (by decide) ?_
                                refine g_goto (tgt := 36) hX dX8_scan_186 (by decide) ?_
                                refine g_widen (k := 1 + (xs2 ++ [(r, q - r + 1, t)]).length + gNn (xs2 ++ [(r, q - r + 1, t)]).length) (n := 3 + 3 * (xs2 ++ [(r, q - r + 1, t)]).length + gTn (xs2 ++ [(r, q - r + 1, t)]).length) (by rw [show (xs2 ++ [(r, q - r + 1, t)]).length = xs2.length + 1 from by rw [List.length_append, List.length_singleton]]; show _ ≤ 1 + (xs2.length + 1) + (gNn xs2.length + gC xs2.length (cap xs2.length)); omega) (by rw [show (xs2 ++ [(r, q - r + 1, t)]).length = xs2.length + 1 from by rw [List.length_append, List.length_singleton]]; show _ ≤ 3 + 3 * (xs2.length + 1) + (gTn xs2.length + gS xs2.length (cap xs2.length)); omega) ?_
                                skip
                                refine g_lv [0, 4, 5, 6, 7, 8] rfl ?_
                                exact ih_36 (t + 1) (xs2 ++ [(r, q - r + 1, t)]) a17 (by omega) (by omega) (by rw [scT, if_neg c_92, if_pos (show goM M j r t = 0 from hgo0), hx2, hF]) (aga17)
                              · have c_116 : ¬ 200 ≤ k := fun h9 => c_116 ((nI_leI (a := 200) (b := k) (by omega) (by omega)).mpr h9)
                                refine g_iload hX 0 rfl dX8_scan_119 ?_
                                refine g_iload hX 1 rfl dX8_scan_121 ?_
                                refine g_iconst hX (2) dX8_scan_123 rfl ?_
                                refine g_iadd hX dX8_scan_124 ?_
                                refine g_eqi (y := nI (q + 2)) (nI_add q 2) ?_
                                refine g_icmp_gt (tgt := 153) hX dX8_scan_125 (by decide) (fun c_125 => ?_) (fun c_125 => ?_)
                                · have c_125 : (q + 2) < k := (nI_ltI (a := (q + 2)) (b := k) (by omega) (by omega)).mp c_125
                                  have hF : q = lsF M j r t := by
                                    have h9 := hl
                                    rw [show 200 - k = (200 - (k + 1)) + 1 by omega, lsM, if_pos c_125] at h9
                                    exact h9
                                  have hlt9 : xs2.length < 804 := by rw [hx2]; exact scT_lt (by omega) (by omega) c_92 hgo0
                                  refine g_aload_n hX 6 rfl dX8_scan_153 rfl ?_
                                  refine g_iconst hX (3) dX8_scan_154 rfl ?_
                                  refine g_f (g := pf dT mK mN (upr (scI M xs2) (9000 + xs2.length) (fun _ => 0)) (scR S xs2.length) a2) (fun i hi => pf_I (upr_n (show i ≠ (9000 + xs2.length) from fun h => (scL_nin hn2) (h ▸ hi))).symm) ?_
                                  refine g_newI hX (9000 + xs2.length) (scL_nin hn2) (scL_no hS hn2 (scL_nin hn2) (by omega)) 3 (mK_h (by omega)) mN_t (fun k9 => congrFun upr_s k9) (x := 3) rfl (by decide) q_w6 (by have := gN_le hn2; show _ ≤ 817; omega) (by have := gT_le hn2; show _ ≤ 4871; omega) dX8_scan_155 (fun qn18 => ?_)
                                  obtain ⟨a19, ha19⟩ : ∃ z9, z9 = va_up a2 (9000 + xs2.length) qn18 := ⟨_, rfl⟩
                                  have ga19 : ∀ i, i ∈ (scL S xs2.length) → a19 i = a2 i := fun i hi => by rw [ha19]; exact va_up_ne _ _ (fun h => (scL_nin hn2) (h ▸ hi))
                                  rw [← ha19]
                                  refine g_lvs (lv2 := [(8, .int (nI k)), (7, .int (nI q)), (6, .int 0), (5, .int (nI t)), (4, .int (nI r)), (3, .ref (a19 (5000 + j))), (2, .ref (a19 8)), (0, .ref (a19 0)), (1, .int (nI j))]) (st2 := [.ref (a19 (9000 + xs2.length)), .ref (a19 8)]) (by rw [ga19 (5000 + j) (scL_mem.mpr (Or.inl (m_o hS hj))), ga19 8 (scL_mem.mpr (Or.inr (Or.inl rfl))), ga19 0 (scL_mem.mpr (Or.inl (m_lo (by decide))))]) (by rw [ga19 8 (scL_mem.mpr (Or.inr (Or.inl rfl)))]) ?_
                                  have aga19 : AGm (mL S) ad a19 := by rw [ha19]; exact AGm_new hag2 (f_t (by omega)) (by omega)
                                  refine g_dup hX dX8_scan_157 rfl ?_
                                  refine g_iconst hX (0) dX8_scan_158 rfl ?_
                                  refine g_iload hX 4 rfl dX8_scan_159 ?_
                                  refine h_iast (i := (9000 + xs2.length)) hX 0 rfl (by rw [mN_t]; omega) (by rw [mN_t]; decide) (List.mem_append_right _ (List.mem_singleton.mpr rfl)) (mK_h (by omega)) dX8_scan_161 ?_
                                  refine g_dup hX dX8_scan_162 rfl ?_
                                  refine g_iconst hX (1) dX8_scan_163 rfl ?_
                                  refine g_iload hX 1 rfl dX8_scan_164 ?_
                                  refine g_iload hX 4 rfl dX8_scan_166 ?_
                                  refine g_isub hX dX8_scan_168 ?_
                                  refine g_iconst hX (1) dX8_scan_169 rfl ?_
                                  refine g_iadd hX dX8_scan_170 ?_
                                  refine g_eqi (y := nI (q - r + 1)) (len1 (by omega)) ?_
                                  refine h_iast (i := (9000 + xs2.length)) hX 1 rfl (by rw [mN_t]; omega) (by rw [mN_t]; decide) (List.mem_append_right _ (List.mem_singleton.mpr rfl)) (mK_h (by omega)) dX8_scan_171 ?_
                                  refine g_dup hX dX8_scan_172 rfl ?_
                                  refine g_iconst hX (2) dX8_scan_173 rfl ?_
                                  refine g_iload hX 3 rfl dX8_scan_174 ?_
                                  refine h_iast (i := (9000 + xs2.length)) hX 2 rfl (by rw [mN_t]; omega) (by rw [mN_t]; decide) (List.mem_append_right _ (List.mem_singleton.mpr rfl)) (mK_h (by omega)) dX8_scan_176 ?_
                                  refine b_callI_F hX hM (b := 8) [.ref (a19 (9000 + xs2.length))] (List.mem_append_left _ (scL_mem.mpr (Or.inr (Or.inl rfl)))) (pf_obj rfl (by decide)) rfl (k_add8 (up2 (up2 (up2 (upr (scI M xs2) (9000 + xs2.length) (fun _ => 0)) (9000 + xs2.length) 0 (nI r)) (9000 + xs2.length) 1 (nI (q - r + 1))) (9000 + xs2.length) 2 (nI t)) S hS xs2.length hlt9 ((up2_n (Or.inl (by omega))).trans ((up2_n (Or.inl (by omega))).trans ((up2_n (Or.inl (by omega))).trans ((congrFun (upr_n (by omega)) 2).trans scI_82)))) (AGm_z aga19 hz)) gX8_scan_Jx4a65c_add_9ea2d_f70Jx4a65c (by decide +kernel) rfl rfl rfl hdF_add ⟨Nat.le_of_ble_eq_true rfl, Nat.le_of_ble_eq_true rfl⟩ ⟨by have h5 := gN_le (n := xs2.length + 1) (by omega); have h6 : gNn (xs2.length + 1) = gNn xs2.length + gC xs2.length (cap xs2.length) := rfl; show _ ≤ 817; omega, by have h5 := gT_le (n := xs2.length + 1) (by omega); have h6 : gTn (xs2.length + 1) = gTn xs2.length + gS xs2.length (cap xs2.length) := rfl; show _ ≤ 4871; omega⟩ rfl (Nat.le_of_ble_eq_true rfl) dX8_scan_177 (fun r9 a20 L9 f9 hp9 => ?_)
                                  obtain ⟨⟨x9, ga20, he9⟩, hr9⟩ := hp9
                                  cases he9
                                  subst hr9
                                  have aga20 : AGm (mL S) ad a20 := fun i hi h6 h1 => (ga20 i (by rcases hi with w | w; have := mL_84 hS w; omega; omega)).trans (aga19 i hi h6 h1)
                                  refine g_lvs (lv2 := [(8, .int (nI k)), (7, .int (nI q)), (6, .int 0), (5, .int (nI t)), (4, .int (nI r)), (3, .ref (a20 (5000 + j))), (2, .ref (a20 8)), (0, .ref (a20 0)), (1, .int (nI j))]) (st2 := [.int 1]) (by rw [ga20 (5000 + j) (by omega), ga20 8 (by omega), ga20 0 (by omega)]) rfl ?_
                                  rw [show (up2 (up2 (up2 (upr (scI M xs2) (9000 + xs2.length) (fun _ => 0)) (9000 + xs2.length) 0 (nI r)) (9000 + xs2.length) 1 (nI (q - r + 1))) (9000 + xs2.length) 2 (nI t)) 8 0 = nI xs2.length from ((up2_n (Or.inl (by omega))).trans ((up2_n (Or.inl (by omega))).trans ((up2_n (Or.inl (by omega))).trans ((congrFun (upr_n (by omega)) 0).trans scI_80)))), scI_add, show xs2.length + 1 = (xs2 ++ [(r, q - r + 1, t)]).length from by rw [List.length_append, List.length_singleton]]
                                  refine g_pop hX dX8_scan_182 rfl ?_
                                  refine g_iinc hX (nI (t + 1)) [(5, .int (nI (t + 1))), (8, .int (nI k)), (7, .int (nI q)), (6, .int 0), (4, .int (nI r)), (3, .ref (a20 (5000 + j))), (2, .ref (a20 8)), (0, .ref (a20 0)), (1, .int (nI j))] (k := 3) rfl (g_inc t) rfl dX8_scan_183 (by decide) ?_
                                  refine g_goto (tgt := 36) hX dX8_scan_186 (by decide) ?_
                                  refine g_widen (k := 1 + (xs2 ++ [(r, q - r + 1, t)]).length + gNn (xs2 ++ [(r, q - r + 1, t)]).length) (n := 3 + 3 * (xs2 ++ [(r, q - r + 1, t)]).length + gTn (xs2 ++ [(r, q - r + 1, t)]).length) (by rw [show (xs2 ++ [(r, q - r + 1, t)]).length = xs2.length + 1 from by rw [List.length_append, List.length_singleton]]; show _ ≤ 1 + (xs2.length + 1) + (gNn xs2.length + gC xs2.length (cap xs2.length)); omega) (by rw [show (xs2 ++ [(r, q - r + 1, t)]).length = xs2.length + 1 from by rw [List.length_append, List.length_singleton]]; show _ ≤ 3 + 3 * (xs2.length + 1) + (gTn xs2.length + gS xs2.length (cap xs2.length)); omega) ?_
                                  skip
                                  refine g_lv [0, 4, 5, 6, 7, 8] rfl ?_
                                  exact ih_36 (t + 1) (xs2 ++ [(r, q - r + 1, t)]) a20 (by omega) (by omega) (by rw [scT, if_neg c_92, if_pos (show goM M j r t = 0 from hgo0), hx2, hF]) (aga20)
                                · have c_125 : ¬ (q + 2) < k := fun h9 => c_125 ((nI_ltI (a := (q + 2)) (b := k) (by omega) (by omega)).mpr h9)
                                  refine g_aload_n hX 5 rfl dX8_scan_128 rfl ?_
                                  refine g_iload hX 0 rfl dX8_scan_129 ?_
                                  refine h_aald26 (i := (5000 + j)) hX k rfl (by rw [mN_o (by have := hS.1; omega)]; omega) (by rw [mN_o (by have := hS.1; omega)]; decide) (j := (6000 + 200 * j + k)) ((congrFun (scR_n (by omega) (by omega) hn2) k).trans (mR_o (by have := hS.1; omega) (by omega))) (scL_mem.mpr (Or.inl (m_o hS hj))) (mK_o (by have := hS.1; omega)) dX8_scan_131 ?_
                                  refine g_iload hX 3 rfl dX8_scan_132 ?_
                                  refine h_zald (i := (6000 + 200 * j + k)) hX t rfl (by rw [mN_r (by have := hS.1; omega) (by omega)]; omega) (by rw [mN_r (by have := hS.1; omega) (by omega)]; decide) (scL_mem.mpr (Or.inl (m_r hS hj (by omega)))) (mK_r (by have := hS.1; omega) (by omega)) dX8_scan_134 ?_
                                  refine g_eqi (y := (M (6000 + 200 * j + k) t)) (congrFun (scI_n (xs := xs2) (by omega) (by omega)) t) ?_
                                  refine g_if_eq (tgt := 143) hX dX8_scan_135 (by decide) (fun c_135 => ?_) (fun c_135 => ?_)
                                  · refine g_iload hX 1 rfl dX8_scan_143 ?_
                                    refine g_istore hX [(7, .int (nI q)), (8, .int (nI k)), (6, .int 0), (5, .int (nI t)), (4, .int (nI r)), (3, .ref (a2 (5000 + j))), (2, .ref (a2 8)), (0, .ref (a2 0)), (1, .int (nI j))] rfl dX8_scan_145 (by decide) ?_
                                    refine g_iinc hX (nI (k + 1)) [(8, .int (nI (k + 1))), (7, .int (nI q)), (6, .int 0), (5, .int (nI t)), (4, .int (nI r)), (3, .ref (a2 (5000 + j))), (2, .ref (a2 8)), (0, .ref (a2 0)), (1, .int (nI j))] (k := 1) rfl (g_inc k) rfl dX8_scan_147 (by decide) ?_
                                    refine g_goto (tgt := 111) hX dX8_scan_150 (by decide) ?_
                                    refine g_lv [0, 1, 2, 3, 4, 5, 6, 7, 8] rfl ?_
                                    exact ih_111 (k + 1) q (by omega) (by omega) (by omega) (by have h9 := hl; rw [show 200 - k = (200 - (k + 1)) + 1 by omega, lsM, if_neg c_125, if_pos c_135] at h9; exact h9)
                                  · refine g_iload hX 0 rfl dX8_scan_138 ?_
                                    refine g_goto (tgt := 145) hX dX8_scan_140 (by decide) ?_
                                    refine g_istore hX [(7, .int (nI k)), (8, .int (nI k)), (6, .int 0), (5, .int (nI t)), (4, .int (nI r)), (3, .ref (a2 (5000 + j))), (2, .ref (a2 8)), (0, .ref (a2 0)), (1, .int (nI j))] rfl dX8_scan_145 (by decide) ?_
                                    refine g_iinc hX (nI (k + 1)) [(8, .int (nI (k + 1))), (7, .int (nI k)), (6, .int 0), (5, .int (nI t)), (4, .int (nI r)), (3, .ref (a2 (5000 + j))), (2, .ref (a2 8)), (0, .ref (a2 0)), (1, .int (nI j))] (k := 1) rfl (g_inc k) rfl dX8_scan_147 (by decide) ?_
                                    refine g_goto (tgt := 111) hX dX8_scan_150 (by decide) ?_
                                    refine g_lv [0, 1, 2, 3, 4, 5, 6, 7, 8] rfl ?_
                                    exact ih_111 (k + 1) k (by omega) (by omega) (by omega) (by have h9 := hl; rw [show 200 - k = (200 - (k + 1)) + 1 by omega, lsM, if_neg c_125, if_neg c_135] at h9; exact h9)
                          refine g_lv [0, 1, 2, 3, 4, 5, 6, 7, 8] rfl ?_
                          exact lp_111 _ r r (Nat.lt_succ_self _) (by omega) (by omega) rfl
                        · first | exact absurd c_97 (by decide) | exact absurd (by decide) c_97
                    · refine g_iconst hX (1) dX8_scan_78 rfl ?_
                      refine g_goto (tgt := 83) hX dX8_scan_79 (by decide) ?_
                      refine g_istore hX [(6, .int 1), (5, .int (nI t)), (4, .int (nI r)), (3, .ref (a2 (5000 + j))), (2, .ref (a2 8)), (0, .ref (a2 0)), (1, .int (nI j))] rfl dX8_scan_83 (by decide) ?_
                      refine g_aload_n hX 3 rfl dX8_scan_85 rfl ?_
                      refine g_iload hX 2 rfl dX8_scan_86 ?_
                      refine h_aald26 (i := (5000 + j)) hX r rfl (by rw [mN_o (by have := hS.1; omega)]; omega) (by rw [mN_o (by have := hS.1; omega)]; decide) (j := (6000 + 200 * j + r)) ((congrFun (scR_n (by omega) (by omega) hn2) r).trans (mR_o (by have := hS.1; omega) (by omega))) (scL_mem.mpr (Or.inl (m_o hS hj))) (mK_o (by have := hS.1; omega)) dX8_scan_88 ?_
                      refine g_iload hX 1 rfl dX8_scan_89 ?_
                      refine h_zald (i := (6000 + 200 * j + r)) hX t rfl (by rw [mN_r (by have := hS.1; omega) (by omega)]; omega) (by rw [mN_r (by have := hS.1; omega) (by omega)]; decide) (scL_mem.mpr (Or.inl (m_r hS hj (by omega)))) (mK_r (by have := hS.1; omega) (by omega)) dX8_scan_91 ?_
                      refine g_eqi (y := (M (6000 + 200 * j + r) t)) (congrFun (scI_n (xs := xs2) (by omega) (by omega)) t) ?_
                      refine g_if_eq (tgt := 183) hX dX8_scan_92 (by decide) (fun c_92 => ?_) (fun c_92 => ?_)
                      · refine g_iinc hX (nI (t + 1)) [(5, .int (nI (t + 1))), (6, .int 1), (4, .int (nI r)), (3, .ref (a2 (5000 + j))), (2, .ref (a2 8)), (0, .ref (a2 0)), (1, .int (nI j))] (k := 1) rfl (g_inc t) rfl dX8_scan_183 (by decide) ?_
                        refine g_goto (tgt := 36) hX dX8_scan_186 (by decide) ?_
                        skip
                        refine g_lv [0, 2, 3, 4, 5, 6] rfl ?_
                        exact ih_36 (t + 1) xs2 a2 (by omega) (by omega) (by rw [scT, if_pos c_92]; exact hx2) (hag2)
                      · refine g_iload hX 0 rfl dX8_scan_95 ?_
                        refine g_if_eq (tgt := 103) hX dX8_scan_97 (by decide) (fun c_97 => ?_) (fun c_97 => ?_)
                        · first | exact absurd c_97 (by decide) | exact absurd (by decide) c_97
                        · refine g_goto (tgt := 183) hX dX8_scan_100 (by decide) ?_
                          refine g_iinc hX (nI (t + 1)) [(5, .int (nI (t + 1))), (6, .int 1), (4, .int (nI r)), (3, .ref (a2 (5000 + j))), (2, .ref (a2 8)), (0, .ref (a2 0)), (1, .int (nI j))] (k := 1) rfl (g_inc t) rfl dX8_scan_183 (by decide) ?_
                          refine g_goto (tgt := 36) hX dX8_scan_186 (by decide) ?_
                          skip
                          refine g_lv [0, 2, 3, 4, 5, 6] rfl ?_
                          exact ih_36 (t + 1) xs2 a2 (by omega) (by omega) (by rw [scT, if_neg c_92, if_neg (show ¬ goM M j r t = 0 from (by rw [goM, if_neg c_45, if_pos c_57, if_neg c_63, if_neg c_75]; decide))]; exact hx2) (hag2)
        refine g_lv [0, 1, 2, 3, 4, 5] rfl ?_
        exact lp_36 _ 0 xs a (Nat.lt_succ_self _) (Nat.zero_le _) (by rw [hx]; rfl) (hag)
  refine g_widen (k := 1 + ([] : List (Nat × Nat × Nat)).length + gNn ([] : List (Nat × Nat × Nat)).length) (n := 3 + 3 * ([] : List (Nat × Nat × Nat)).length + gTn ([] : List (Nat × Nat × Nat)).length) (Nat.le_of_ble_eq_true rfl) (Nat.le_of_ble_eq_true rfl) ?_
  skip
  refine g_lv [0, 1, 2, 3, 4] rfl ?_
  exact lp_25 _ 0 ([] : List (Nat × Nat × Nat)) a2 (Nat.lt_succ_self _) (Nat.zero_le _) rfl (aga2)
