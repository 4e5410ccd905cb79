abbrev rm_X8_ends : Room := { frames := 3, cells := 0, slots := 0, locals := 64 }
theorem hd_X8_ends : yX8_ends.cls = RX8 ∧ yX8_ends.cls ≠ "java/lang/invoke/MethodHandle" ∧ yX8_ends.cls ≠ "java/lang/invoke/VarHandle" ∧ (parseMethodDescriptor yX8_ends.desc).map (fun d => d.parameters.length) = some 1 := by decide +kernel
set_option maxRecDepth 100000 in
set_option maxHeartbeats 4000000 in
theorem k_X8_ends {D : va_G} {dT : Nat → ClassId} {Z : ZT} {ad : Nat → Nat} {L : List Nat} {Rr : Nat → Nat → Option Nat} (M : Nat → Nat → Int32) (S : SZ) (hS : WS S) (hw1 : M 1 2 = nI S.1) (hw2 : M 2 2 = nI S.2.1) (hw3 : M 3 2 = nI S.2.2.1) (hLs : ∀ i ∈ mL S, i ∈ L) (hRs : ∀ i ∈ mL S, Rr i = mR S i) (v : Nat) (hv : v < 12) (hix : ¬ M (20 + v) 8 < 0 → ∃ n, n < S.2.2.1 ∧ M (20 + v) 8 = nI n) : ∀ l8, BV l8 yX8_ends wsX8_ends rm_X8_ends D (tyl dT) Z ad L (pf dT mK mN M Rr ad) [.ref (ad 0), .ref (ad (20 + v))] 0 0 (fun u => u = (ad, L, pf dT mK mN (endI M v) Rr ad)) := by
  intro l9
  refine bv_of (own := RX8) (cc := cX8_ends) (maxL := 2) [(0, .ref (ad 0)), (1, .ref (ad (20 + v)))] (by decide) rfl rfl rfl (Nat.le_of_ble_eq_true rfl) ?_
  intro X hX hE hN hM
  have q_w1 : Cond.fieldLink RX8 194 "PerforatumModel$Valve" "index" "I" ∈ wsX8_ends := List.mem_of_getElem? (i := 1) rfl
  have q_inX7 : ∀ w ∈ wsX70, w ∈ wsX8_ends := by decide +kernel
  have q_w5 : Cond.fieldLink RX8 180 "PerforatumModel$Valve" "state" "I" ∈ wsX8_ends := List.mem_of_getElem? (i := 5) rfl
  have q_w2 : Cond.fieldLink RX8 19 "PerforatumModel" "sounds" "Ljava/util/List;" ∈ wsX8_ends := List.mem_of_getElem? (i := 2) rfl
  have q_inX8 : ∀ w ∈ wsX80, w ∈ wsX8_ends := by decide +kernel
  have q_w3 : Cond.classLink RX8 117 "[I" ∈ wsX8_ends := List.mem_of_getElem? (i := 3) rfl
  have q_w4 : Cond.fieldLink RX8 158 "PerforatumModel" "row" "I" ∈ wsX8_ends := List.mem_of_getElem? (i := 4) rfl
  have hS1 := hS.1
  have hS2 := hS.2.1
  have hS3 := hS.2.2.1
  refine g_aload_n hX 1 rfl dX8_ends_0 rfl ?_
  refine g_getI (i := (20 + v)) hX 11 8 q_inX7 (hLs _ (m_v hv)) (mK_v hv) (by decide) rfl (by decide) rfl q_w1 rfl dX8_ends_1 ?_
  refine g_if_lt (tgt := 31) hX dX8_ends_4 (by decide) (fun c_4 => ?_) (fun c_4 => ?_)
  · refine g_aload_n hX 1 rfl dX8_ends_31 rfl ?_
    refine g_iconst hX (0) dX8_ends_32 rfl ?_
    refine g_putI hX (i := (20 + v)) 11 7 q_inX7 (hLs _ (m_v hv)) (mK_v hv) (by decide) rfl (by decide) rfl q_w5 rfl tyX7_ok nmX7 rfl (ty := .int) (by decide +kernel) rfl rfl dX8_ends_33 ?_
    refine b_vret hX hE dX8_ends_36 (by omega) (by omega) ?_
    rw [endI, if_pos c_4]
  · obtain ⟨n, hn, hin⟩ := hix c_4
    refine g_aload_n hX 0 rfl dX8_ends_7 rfl ?_
    refine g_getRs (i := 0) hX 12 2 q_inX8 (hLs _ (m_lo (by decide))) rfl (by decide) rfl (by decide) rfl q_w2 rfl (j := 3) ((congrFun (hRs _ (m_lo (by decide))) 2).trans rfl) dX8_ends_8 ?_
    refine g_aload_n hX 1 rfl dX8_ends_11 rfl ?_
    refine g_getI (i := (20 + v)) hX 11 8 q_inX7 (hLs _ (m_v hv)) (mK_v hv) (by decide) rfl (by decide) rfl q_w1 rfl dX8_ends_12 ?_
    refine g_eqi (y := (nI n)) hin ?_
    refine b_callQ_F hX hM (b := 3) [.int (nI n)] (hLs _ (m_lo (by decide))) (pf_obj rfl (by decide)) rfl (q_get3 S hS hLs hRs hw3 n hn) gX8_ends_Jx4a65c_get_915e3_f81Jx4a65c (by decide +kernel) rfl rfl rfl hdF_get ⟨Nat.le_of_ble_eq_true rfl, Nat.le_of_ble_eq_true rfl⟩ ⟨Nat.le_of_ble_eq_true rfl, Nat.le_of_ble_eq_true rfl⟩ rfl (Nat.le_of_ble_eq_true rfl) dX8_ends_15 (fun r9 ad9 L9 f9 hp9 => ?_)
    obtain ⟨he9, hr9⟩ := hp9
    cases he9
    subst hr9
    refine b_cast20 (i := (8000 + n)) hX (hLs _ (m_s hS hn)) (mK_h (by omega)) q_w3 dX8_ends_20 ?_
    refine g_iconst hX (3) dX8_ends_23 rfl ?_
    refine g_aload_n hX 0 rfl dX8_ends_24 rfl ?_
    refine g_getI (i := 0) hX 12 7 q_inX8 (hLs _ (m_lo (by decide))) rfl (by decide) rfl (by decide) rfl q_w4 rfl dX8_ends_25 ?_
    refine g_iconst hX (1) dX8_ends_28 rfl ?_
    refine g_isub hX dX8_ends_29 ?_
    refine h_iast (i := (8000 + n)) hX 3 rfl (by rw [mN_s (by have := hS.2.2.1; omega)]; omega) (by rw [mN_s (by have := hS.2.2.1; omega)]; decide) (hLs _ (m_s hS hn)) (mK_h (by omega)) dX8_ends_30 ?_
    refine g_aload_n hX 1 rfl dX8_ends_31 rfl ?_
    refine g_iconst hX (0) dX8_ends_32 rfl ?_
    refine g_putI hX (i := (20 + v)) 11 7 q_inX7 (hLs _ (m_v hv)) (mK_v hv) (by decide) rfl (by decide) rfl q_w5 rfl tyX7_ok nmX7 rfl (ty := .int) (by decide +kernel) rfl rfl dX8_ends_33 ?_
    refine b_vret hX hE dX8_ends_36 (by omega) (by omega) ?_
    rw [endI, if_neg c_4, hin, nI_clamp (by have := hS.2.2.1; omega)]
abbrev rm_X8_codes : Room := { frames := 1, cells := 0, slots := 0, locals := 24 }
theorem hd_X8_codes : yX8_codes.cls = RX8 ∧ yX8_codes.cls ≠ "java/lang/invoke/MethodHandle" ∧ yX8_codes.cls ≠ "java/lang/invoke/VarHandle" ∧ (parseMethodDescriptor yX8_codes.desc).map (fun d => d.parameters.length) = some 1 := by decide +kernel
set_option maxRecDepth 100000 in
set_option maxHeartbeats 4000000 in
theorem k_X8_codes {D : va_G} {dT : Nat → ClassId} {Z : ZT} {ad : Nat → Nat} {L : List Nat} {Rr : Nat → Nat → Option Nat} (M : Nat → Nat → Int32) (S : SZ) (hS : WS S) (hw1 : M 1 2 = nI S.1) (hw2 : M 2 2 = nI S.2.1) (hw3 : M 3 2 = nI S.2.2.1) (hLs : ∀ i ∈ mL S, i ∈ L) (hRs : ∀ i ∈ mL S, Rr i = mR S i) (h7 : 7 ∈ L) (hlat : M 0 16 = 0 ∨ M 0 16 = 1) : ∀ l8, BV l8 yX8_codes wsX8_codes rm_X8_codes D (tyl dT) Z ad L (pf dT mK mN M Rr ad) [.ref (ad 0), .ref (ad 7)] 0 0 (fun u => u = (ad, L, pf dT mK mN (codI M) Rr ad)) := by
  intro l9
  refine bv_of (own := RX8) (cc := cX8_codes) (maxL := 3) [(0, .ref (ad 0)), (1, .ref (ad 7))] (by decide) rfl rfl rfl (Nat.le_of_ble_eq_true rfl) ?_
  intro X hX hE hN hM
  have q_w1 : Cond.fieldLink RX8 43 "PerforatumModel" "maker" "C" ∈ wsX8_codes := List.mem_of_getElem? (i := 1) rfl
  have q_inX8 : ∀ w ∈ wsX80, w ∈ wsX8_codes := by decide +kernel
  have q_w4 : Cond.fieldLink RX8 164 "PerforatumModel" "level" "I" ∈ wsX8_codes := List.mem_of_getElem? (i := 4) rfl
  have q_w5 : Cond.methodLink RX8 191 Lib.Math.min.name ∈ wsX8_codes := List.mem_of_getElem? (i := 5) rfl
  have q_w6 : Cond.static Lib.Math.min.name ∈ wsX8_codes := List.mem_of_getElem? (i := 6) rfl
  have q_w7 : Cond.initialized "java/lang/Math" ∈ wsX8_codes := List.mem_of_getElem? (i := 7) rfl
  have q_w8 : Cond.code Lib.Math.min.name Lib.Math.min.code 2 (some .int) ∈ wsX8_codes := List.mem_of_getElem? (i := 8) rfl
  have q_w9 : Cond.methodLink RX8 147 Lib.Math.max.name ∈ wsX8_codes := List.mem_of_getElem? (i := 9) rfl
  have q_w10 : Cond.static Lib.Math.max.name ∈ wsX8_codes := List.mem_of_getElem? (i := 10) rfl
  have q_w11 : Cond.code Lib.Math.max.name Lib.Math.max.code 2 (some .int) ∈ wsX8_codes := List.mem_of_getElem? (i := 11) rfl
  have q_w3 : Cond.fieldLink RX8 32 "PerforatumModel" "before" "[Z" ∈ wsX8_codes := List.mem_of_getElem? (i := 3) rfl
  have q_w2 : Cond.fieldLink RX8 170 "PerforatumModel" "latched" "Z" ∈ wsX8_codes := List.mem_of_getElem? (i := 2) rfl
  have hS1 := hS.1
  have hS2 := hS.2.1
  have hS3 := hS.2.2.1
  refine g_iconst hX (0) dX8_codes_0 rfl ?_
  refine g_istore_n hX [(2, .int 0), (0, .ref (ad 0)), (1, .ref (ad 7))] rfl dX8_codes_1 rfl (by decide) ?_
  refine g_aload_n hX 1 rfl dX8_codes_2 rfl ?_
  refine g_getI (i := 0) hX 12 17 q_inX8 (hLs _ (m_lo (by decide))) rfl (by decide) rfl (by decide) rfl q_w1 rfl dX8_codes_3 ?_
  refine g_bipush hX (97) dX8_codes_6 rfl ?_
  refine g_icmp_ne (tgt := 57) hX dX8_codes_8 (by decide) (fun c_8 => ?_) (fun c_8 => ?_)
  · refine g_aload_n hX 1 rfl dX8_codes_57 rfl ?_
    refine g_getI (i := 0) hX 12 17 q_inX8 (hLs _ (m_lo (by decide))) rfl (by decide) rfl (by decide) rfl q_w1 rfl dX8_codes_58 ?_
    refine g_bipush hX (98) dX8_codes_61 rfl ?_
    refine g_icmp_ne (tgt := 119) hX dX8_codes_63 (by decide) (fun c_63 => ?_) (fun c_63 => ?_)
    · refine g_aload_n hX 2 rfl dX8_codes_119 rfl ?_
      refine g_bipush hX (13) dX8_codes_120 rfl ?_
      refine h_zald (i := 7) hX 13 rfl (by show _ < (16 : Nat); omega) (by decide) h7 rfl dX8_codes_122 ?_
      refine g_if_ne (tgt := 133) hX dX8_codes_123 (by decide) (fun c_123 => ?_) (fun c_123 => ?_)
      · refine g_aload_n hX 2 rfl dX8_codes_133 rfl ?_
        refine g_bipush hX (13) dX8_codes_134 rfl ?_
        refine h_zald (i := 7) hX 13 rfl (by show _ < (16 : Nat); omega) (by decide) h7 rfl dX8_codes_136 ?_
        refine g_if_eq (tgt := 151) hX dX8_codes_137 (by decide) (fun c_137 => ?_) (fun c_137 => ?_)
        · first | exact absurd c_123 c_137 | exact absurd c_137 c_123
        · refine g_aload_n hX 2 rfl dX8_codes_140 rfl ?_
          refine g_bipush hX (14) dX8_codes_141 rfl ?_
          refine h_zald (i := 7) hX 14 rfl (by show _ < (16 : Nat); omega) (by decide) h7 rfl dX8_codes_143 ?_
          refine g_if_eq (tgt := 151) hX dX8_codes_144 (by decide) (fun c_144 => ?_) (fun c_144 => ?_)
          · refine g_aload_n hX 2 rfl dX8_codes_151 rfl ?_
            refine g_bipush hX (13) dX8_codes_152 rfl ?_
            refine h_zald (i := 7) hX 13 rfl (by show _ < (16 : Nat); omega) (by decide) h7 rfl dX8_codes_154 ?_
            refine g_if_eq (tgt := 162) hX dX8_codes_155 (by decide) (fun c_155 => ?_) (fun c_155 => ?_)
            · first | exact absurd c_137 c_155 | exact absurd c_155 c_137
            · refine g_iconst hX (2) dX8_codes_158 rfl ?_
              refine g_goto (tgt := 164) hX dX8_codes_159 (by decide) ?_
              refine g_istore_n hX [(2, .int 2), (0, .ref (ad 0)), (1, .ref (ad 7))] rfl dX8_codes_164 rfl (by decide) ?_
              refine g_goto (tgt := 177) hX dX8_codes_165 (by decide) ?_
              refine g_aload_n hX 1 rfl dX8_codes_177 rfl ?_
              refine g_iconst hX (0) dX8_codes_178 rfl ?_
              refine g_bipush hX (6) dX8_codes_179 rfl ?_
              refine g_aload_n hX 1 rfl dX8_codes_181 rfl ?_
              refine g_getI (i := 0) hX 12 9 q_inX8 (hLs _ (m_lo (by decide))) rfl (by decide) rfl (by decide) rfl q_w4 rfl dX8_codes_182 ?_
              refine g_iload_n hX 0 rfl dX8_codes_185 rfl ?_
              refine g_iadd hX dX8_codes_186 ?_
              refine g_mmin hX q_w5 q_w6 q_w7 q_w8 (Nat.le_of_ble_eq_true rfl) (Nat.le_of_ble_eq_true rfl) (Nat.le_of_ble_eq_true rfl) (Nat.le_of_ble_eq_true rfl) dX8_codes_187 ?_
              refine g_mmax hX q_w9 q_w10 q_w7 q_w11 (Nat.le_of_ble_eq_true rfl) (Nat.le_of_ble_eq_true rfl) (Nat.le_of_ble_eq_true rfl) (Nat.le_of_ble_eq_true rfl) dX8_codes_190 ?_
              refine g_putI hX (i := 0) 12 9 q_inX8 (hLs _ (m_lo (by decide))) rfl (by decide) rfl (by decide) rfl q_w4 rfl tyX8_ok nmX8 rfl (ty := .int) (by decide +kernel) rfl rfl dX8_codes_193 ?_
              refine b_vret hX hE dX8_codes_196 (by omega) (by omega) ?_
              exact congrArg (fun z => (ad, L, pf dT mK mN z Rr ad)) (by rw [codI, if_neg c_8, if_neg c_63]; simp [c_123, c_144])
          · refine g_iconst hX (0) dX8_codes_147 rfl ?_
            refine g_goto (tgt := 164) hX dX8_codes_148 (by decide) ?_
            refine g_istore_n hX [(2, .int 0), (0, .ref (ad 0)), (1, .ref (ad 7))] rfl dX8_codes_164 rfl (by decide) ?_
            refine g_goto (tgt := 177) hX dX8_codes_165 (by decide) ?_
            refine g_aload_n hX 1 rfl dX8_codes_177 rfl ?_
            refine g_iconst hX (0) dX8_codes_178 rfl ?_
            refine g_bipush hX (6) dX8_codes_179 rfl ?_
            refine g_aload_n hX 1 rfl dX8_codes_181 rfl ?_
            refine g_getI (i := 0) hX 12 9 q_inX8 (hLs _ (m_lo (by decide))) rfl (by decide) rfl (by decide) rfl q_w4 rfl dX8_codes_182 ?_
            refine g_iload_n hX 0 rfl dX8_codes_185 rfl ?_
            refine g_iadd hX dX8_codes_186 ?_
            refine g_mmin hX q_w5 q_w6 q_w7 q_w8 (Nat.le_of_ble_eq_true rfl) (Nat.le_of_ble_eq_true rfl) (Nat.le_of_ble_eq_true rfl) (Nat.le_of_ble_eq_true rfl) dX8_codes_187 ?_
            refine g_mmax hX q_w9 q_w10 q_w7 q_w11 (Nat.le_of_ble_eq_true rfl) (Nat.le_of_ble_eq_true rfl) (Nat.le_of_ble_eq_true rfl) (Nat.le_of_ble_eq_true rfl) dX8_codes_190 ?_
            refine g_putI hX (i := 0) 12 9 q_inX8 (hLs _ (m_lo (by decide))) rfl (by decide) rfl (by decide) rfl q_w4 rfl tyX8_ok nmX8 rfl (ty := .int) (by decide +kernel) rfl rfl dX8_codes_193 ?_
            refine b_vret hX hE dX8_codes_196 (by omega) (by omega) ?_
            exact congrArg (fun z => (ad, L, pf dT mK mN z Rr ad)) (by rw [codI, if_neg c_8, if_neg c_63]; simp [c_123, c_144])
      · refine g_aload_n hX 2 rfl dX8_codes_126 rfl ?_
        refine g_bipush hX (14) dX8_codes_127 rfl ?_
        refine h_zald (i := 7) hX 14 rfl (by show _ < (16 : Nat); omega) (by decide) h7 rfl dX8_codes_129 ?_
        refine g_if_eq (tgt := 168) hX dX8_codes_130 (by decide) (fun c_130 => ?_) (fun c_130 => ?_)
        · refine g_iconst hX (3) dX8_codes_168 rfl ?_
          refine g_aload_n hX 1 rfl dX8_codes_169 rfl ?_
          refine g_getI (i := 0) hX 12 9 q_inX8 (hLs _ (m_lo (by decide))) rfl (by decide) rfl (by decide) rfl q_w4 rfl dX8_codes_170 ?_
          refine b_callI_S hX hM [.int 3, .int (M 0 9)] (k_J6_compare_7cf53B 3 (M 0 9)) gX8_codes_J6_compare_7cf53 rfl rfl rfl hd_J6_compare_7cf53.2 ⟨Nat.le_of_ble_eq_true rfl, Nat.le_of_ble_eq_true rfl⟩ ⟨Nat.le_of_ble_eq_true rfl, Nat.le_of_ble_eq_true rfl⟩ rfl (Nat.le_of_ble_eq_true rfl) dX8_codes_173 (fun r9 ad9 L9 f9 hp9 => ?_)
          obtain ⟨he9, hr9⟩ := hp9
          cases he9
          subst hr9
          refine g_istore_n hX [(2, .int (cmp3 3 (M 0 9))), (0, .ref (ad 0)), (1, .ref (ad 7))] rfl dX8_codes_176 rfl (by decide) ?_
          refine g_aload_n hX 1 rfl dX8_codes_177 rfl ?_
          refine g_iconst hX (0) dX8_codes_178 rfl ?_
          refine g_bipush hX (6) dX8_codes_179 rfl ?_
          refine g_aload_n hX 1 rfl dX8_codes_181 rfl ?_
          refine g_getI (i := 0) hX 12 9 q_inX8 (hLs _ (m_lo (by decide))) rfl (by decide) rfl (by decide) rfl q_w4 rfl dX8_codes_182 ?_
          refine g_iload_n hX 0 rfl dX8_codes_185 rfl ?_
          refine g_iadd hX dX8_codes_186 ?_
          refine g_mmin hX q_w5 q_w6 q_w7 q_w8 (Nat.le_of_ble_eq_true rfl) (Nat.le_of_ble_eq_true rfl) (Nat.le_of_ble_eq_true rfl) (Nat.le_of_ble_eq_true rfl) dX8_codes_187 ?_
          refine g_mmax hX q_w9 q_w10 q_w7 q_w11 (Nat.le_of_ble_eq_true rfl) (Nat.le_of_ble_eq_true rfl) (Nat.le_of_ble_eq_true rfl) (Nat.le_of_ble_eq_true rfl) dX8_codes_190 ?_
          refine g_putI hX (i := 0) 12 9 q_inX8 (hLs _ (m_lo (by decide))) rfl (by decide) rfl (by decide) rfl q_w4 rfl tyX8_ok nmX8 rfl (ty := .int) (by decide +kernel) rfl rfl dX8_codes_193 ?_
          refine b_vret hX hE dX8_codes_196 (by omega) (by omega) ?_
          exact congrArg (fun z => (ad, L, pf dT mK mN z Rr ad)) (by rw [codI, if_neg c_8, if_neg c_63]; simp [c_123, c_130])
        · refine g_aload_n hX 2 rfl dX8_codes_133 rfl ?_
          refine g_bipush hX (13) dX8_codes_134 rfl ?_
          refine h_zald (i := 7) hX 13 rfl (by show _ < (16 : Nat); omega) (by decide) h7 rfl dX8_codes_136 ?_
          refine g_if_eq (tgt := 151) hX dX8_codes_137 (by decide) (fun c_137 => ?_) (fun c_137 => ?_)
          · refine g_aload_n hX 2 rfl dX8_codes_151 rfl ?_
            refine g_bipush hX (13) dX8_codes_152 rfl ?_
            refine h_zald (i := 7) hX 13 rfl (by show _ < (16 : Nat); omega) (by decide) h7 rfl dX8_codes_154 ?_
            refine g_if_eq (tgt := 162) hX dX8_codes_155 (by decide) (fun c_155 => ?_) (fun c_155 => ?_)
            · refine g_bipush hX (-2) dX8_codes_162 rfl ?_
              refine g_istore_n hX [(2, .int (-2)), (0, .ref (ad 0)), (1, .ref (ad 7))] rfl dX8_codes_164 rfl (by decide) ?_
              refine g_goto (tgt := 177) hX dX8_codes_165 (by decide) ?_
              refine g_aload_n hX 1 rfl dX8_codes_177 rfl ?_
              refine g_iconst hX (0) dX8_codes_178 rfl ?_
              refine g_bipush hX (6) dX8_codes_179 rfl ?_
              refine g_aload_n hX 1 rfl dX8_codes_181 rfl ?_
              refine g_getI (i := 0) hX 12 9 q_inX8 (hLs _ (m_lo (by decide))) rfl (by decide) rfl (by decide) rfl q_w4 rfl dX8_codes_182 ?_
              refine g_iload_n hX 0 rfl dX8_codes_185 rfl ?_
              refine g_iadd hX dX8_codes_186 ?_
              refine g_mmin hX q_w5 q_w6 q_w7 q_w8 (Nat.le_of_ble_eq_true rfl) (Nat.le_of_ble_eq_true rfl) (Nat.le_of_ble_eq_true rfl) (Nat.le_of_ble_eq_true rfl) dX8_codes_187 ?_
              refine g_mmax hX q_w9 q_w10 q_w7 q_w11 (Nat.le_of_ble_eq_true rfl) (Nat.le_of_ble_eq_true rfl) (Nat.le_of_ble_eq_true rfl) (Nat.le_of_ble_eq_true rfl) dX8_codes_190 ?_
              refine g_putI hX (i := 0) 12 9 q_inX8 (hLs _ (m_lo (by decide))) rfl (by decide) rfl (by decide) rfl q_w4 rfl tyX8_ok nmX8 rfl (ty := .int) (by decide +kernel) rfl rfl dX8_codes_193 ?_
              refine b_vret hX hE dX8_codes_196 (by omega) (by omega) ?_
              exact congrArg (fun z => (ad, L, pf dT mK mN z Rr ad)) (by rw [codI, if_neg c_8, if_neg c_63]; simp [c_123, c_130])
            · first | exact absurd c_137 c_155 | exact absurd c_155 c_137
          · first | exact absurd c_123 c_137 | exact absurd c_137 c_123
    · refine g_iload_n hX 0 rfl dX8_codes_66 rfl ?_
      refine g_aload_n hX 2 rfl dX8_codes_67 rfl ?_
      refine g_bipush hX (13) dX8_codes_68 rfl ?_
      refine h_zald (i := 7) hX 13 rfl (by show _ < (16 : Nat); omega) (by decide) h7 rfl dX8_codes_70 ?_
      refine g_if_eq (tgt := 88) hX dX8_codes_71 (by decide) (fun c_71 => ?_) (fun c_71 => ?_)
      · refine g_iconst hX (0) dX8_codes_88 rfl ?_
        refine g_iadd hX dX8_codes_89 ?_
        refine g_istore_n hX [(2, .int (0 + 0)), (0, .ref (ad 0)), (1, .ref (ad 7))] rfl dX8_codes_90 rfl (by decide) ?_
        refine g_iload_n hX 0 rfl dX8_codes_91 rfl ?_
        refine g_aload_n hX 2 rfl dX8_codes_92 rfl ?_
        refine g_bipush hX (14) dX8_codes_93 rfl ?_
        refine h_zald (i := 7) hX 14 rfl (by show _ < (16 : Nat); omega) (by decide) h7 rfl dX8_codes_95 ?_
        refine g_if_eq (tgt := 113) hX dX8_codes_96 (by decide) (fun c_96 => ?_) (fun c_96 => ?_)
        · refine g_iconst hX (0) dX8_codes_113 rfl ?_
          refine g_isub hX dX8_codes_114 ?_
          refine g_istore_n hX [(2, .int ((0 + 0) - 0)), (0, .ref (ad 0)), (1, .ref (ad 7))] rfl dX8_codes_115 rfl (by decide) ?_
          refine g_goto (tgt := 177) hX dX8_codes_116 (by decide) ?_
          refine g_aload_n hX 1 rfl dX8_codes_177 rfl ?_
          refine g_iconst hX (0) dX8_codes_178 rfl ?_
          refine g_bipush hX (6) dX8_codes_179 rfl ?_
          refine g_aload_n hX 1 rfl dX8_codes_181 rfl ?_
          refine g_getI (i := 0) hX 12 9 q_inX8 (hLs _ (m_lo (by decide))) rfl (by decide) rfl (by decide) rfl q_w4 rfl dX8_codes_182 ?_
          refine g_iload_n hX 0 rfl dX8_codes_185 rfl ?_
          refine g_iadd hX dX8_codes_186 ?_
          refine g_mmin hX q_w5 q_w6 q_w7 q_w8 (Nat.le_of_ble_eq_true rfl) (Nat.le_of_ble_eq_true rfl) (Nat.le_of_ble_eq_true rfl) (Nat.le_of_ble_eq_true rfl) dX8_codes_187 ?_
          refine g_mmax hX q_w9 q_w10 q_w7 q_w11 (Nat.le_of_ble_eq_true rfl) (Nat.le_of_ble_eq_true rfl) (Nat.le_of_ble_eq_true rfl) (Nat.le_of_ble_eq_true rfl) dX8_codes_190 ?_
          refine g_putI hX (i := 0) 12 9 q_inX8 (hLs _ (m_lo (by decide))) rfl (by decide) rfl (by decide) rfl q_w4 rfl tyX8_ok nmX8 rfl (ty := .int) (by decide +kernel) rfl rfl dX8_codes_193 ?_
          refine b_vret hX hE dX8_codes_196 (by omega) (by omega) ?_
          exact congrArg (fun z => (ad, L, pf dT mK mN z Rr ad)) (by rw [codI, if_neg c_8, if_pos c_63]; simp [c_71, c_96])
        · refine g_aload_n hX 1 rfl dX8_codes_99 rfl ?_
          refine g_getRs (i := 0) hX 12 5 q_inX8 (hLs _ (m_lo (by decide))) rfl (by decide) rfl (by decide) rfl q_w3 rfl (j := 6) ((congrFun (hRs _ (m_lo (by decide))) 5).trans rfl) dX8_codes_100 ?_
          refine g_bipush hX (14) dX8_codes_103 rfl ?_
          refine h_zald (i := 6) hX 14 rfl (by show _ < (16 : Nat); omega) (by decide) (hLs _ (m_lo (by decide))) rfl dX8_codes_105 ?_
          refine g_if_ne (tgt := 113) hX dX8_codes_106 (by decide) (fun c_106 => ?_) (fun c_106 => ?_)
          · refine g_iconst hX (0) dX8_codes_113 rfl ?_
            refine g_isub hX dX8_codes_114 ?_
            refine g_istore_n hX [(2, .int ((0 + 0) - 0)), (0, .ref (ad 0)), (1, .ref (ad 7))] rfl dX8_codes_115 rfl (by decide) ?_
            refine g_goto (tgt := 177) hX dX8_codes_116 (by decide) ?_
            refine g_aload_n hX 1 rfl dX8_codes_177 rfl ?_
            refine g_iconst hX (0) dX8_codes_178 rfl ?_
            refine g_bipush hX (6) dX8_codes_179 rfl ?_
            refine g_aload_n hX 1 rfl dX8_codes_181 rfl ?_
            refine g_getI (i := 0) hX 12 9 q_inX8 (hLs _ (m_lo (by decide))) rfl (by decide) rfl (by decide) rfl q_w4 rfl dX8_codes_182 ?_
            refine g_iload_n hX 0 rfl dX8_codes_185 rfl ?_
            refine g_iadd hX dX8_codes_186 ?_
            refine g_mmin hX q_w5 q_w6 q_w7 q_w8 (Nat.le_of_ble_eq_true rfl) (Nat.le_of_ble_eq_true rfl) (Nat.le_of_ble_eq_true rfl) (Nat.le_of_ble_eq_true rfl) dX8_codes_187 ?_
            refine g_mmax hX q_w9 q_w10 q_w7 q_w11 (Nat.le_of_ble_eq_true rfl) (Nat.le_of_ble_eq_true rfl) (Nat.le_of_ble_eq_true rfl) (Nat.le_of_ble_eq_true rfl) dX8_codes_190 ?_
            refine g_putI hX (i := 0) 12 9 q_inX8 (hLs _ (m_lo (by decide))) rfl (by decide) rfl (by decide) rfl q_w4 rfl tyX8_ok nmX8 rfl (ty := .int) (by decide +kernel) rfl rfl dX8_codes_193 ?_
            refine b_vret hX hE dX8_codes_196 (by omega) (by omega) ?_
            exact congrArg (fun z => (ad, L, pf dT mK mN z Rr ad)) (by rw [codI, if_neg c_8, if_pos c_63]; simp [c_71, c_96, c_106])
          · refine g_iconst hX (1) dX8_codes_109 rfl ?_
            refine g_goto (tgt := 114) hX dX8_codes_110 (by decide) ?_
            refine g_isub hX dX8_codes_114 ?_
            refine g_istore_n hX [(2, .int ((0 + 0) - 1)), (0, .ref (ad 0)), (1, .ref (ad 7))] rfl dX8_codes_115 rfl (by decide) ?_
            refine g_goto (tgt := 177) hX dX8_codes_116 (by decide) ?_
            refine g_aload_n hX 1 rfl dX8_codes_177 rfl ?_
            refine g_iconst hX (0) dX8_codes_178 rfl ?_
            refine g_bipush hX (6) dX8_codes_179 rfl ?_
            refine g_aload_n hX 1 rfl dX8_codes_181 rfl ?_
            refine g_getI (i := 0) hX 12 9 q_inX8 (hLs _ (m_lo (by decide))) rfl (by decide) rfl (by decide) rfl q_w4 rfl dX8_codes_182 ?_
            refine g_iload_n hX 0 rfl dX8_codes_185 rfl ?_
            refine g_iadd hX dX8_codes_186 ?_
            refine g_mmin hX q_w5 q_w6 q_w7 q_w8 (Nat.le_of_ble_eq_true rfl) (Nat.le_of_ble_eq_true rfl) (Nat.le_of_ble_eq_true rfl) (Nat.le_of_ble_eq_true rfl) dX8_codes_187 ?_
            refine g_mmax hX q_w9 q_w10 q_w7 q_w11 (Nat.le_of_ble_eq_true rfl) (Nat.le_of_ble_eq_true rfl) (Nat.le_of_ble_eq_true rfl) (Nat.le_of_ble_eq_true rfl) dX8_codes_190 ?_
            refine g_putI hX (i := 0) 12 9 q_inX8 (hLs _ (m_lo (by decide))) rfl (by decide) rfl (by decide) rfl q_w4 rfl tyX8_ok nmX8 rfl (ty := .int) (by decide +kernel) rfl rfl dX8_codes_193 ?_
            refine b_vret hX hE dX8_codes_196 (by omega) (by omega) ?_
            exact congrArg (fun z => (ad, L, pf dT mK mN z Rr ad)) (by rw [codI, if_neg c_8, if_pos c_63]; simp [c_71, c_96, c_106])
      · refine g_aload_n hX 1 rfl dX8_codes_74 rfl ?_
        refine g_getRs (i := 0) hX 12 5 q_inX8 (hLs _ (m_lo (by decide))) rfl (by decide) rfl (by decide) rfl q_w3 rfl (j := 6) ((congrFun (hRs _ (m_lo (by decide))) 5).trans rfl) dX8_codes_75 ?_
        refine g_bipush hX (13) dX8_codes_78 rfl ?_
        refine h_zald (i := 6) hX 13 rfl (by show _ < (16 : Nat); omega) (by decide) (hLs _ (m_lo (by decide))) rfl dX8_codes_80 ?_
        refine g_if_ne (tgt := 88) hX dX8_codes_81 (by decide) (fun c_81 => ?_) (fun c_81 => ?_)
        · refine g_iconst hX (0) dX8_codes_88 rfl ?_
          refine g_iadd hX dX8_codes_89 ?_
          refine g_istore_n hX [(2, .int (0 + 0)), (0, .ref (ad 0)), (1, .ref (ad 7))] rfl dX8_codes_90 rfl (by decide) ?_
          refine g_iload_n hX 0 rfl dX8_codes_91 rfl ?_
          refine g_aload_n hX 2 rfl dX8_codes_92 rfl ?_
          refine g_bipush hX (14) dX8_codes_93 rfl ?_
          refine h_zald (i := 7) hX 14 rfl (by show _ < (16 : Nat); omega) (by decide) h7 rfl dX8_codes_95 ?_
          refine g_if_eq (tgt := 113) hX dX8_codes_96 (by decide) (fun c_96 => ?_) (fun c_96 => ?_)
          · refine g_iconst hX (0) dX8_codes_113 rfl ?_
            refine g_isub hX dX8_codes_114 ?_
            refine g_istore_n hX [(2, .int ((0 + 0) - 0)), (0, .ref (ad 0)), (1, .ref (ad 7))] rfl dX8_codes_115 rfl (by decide) ?_
            refine g_goto (tgt := 177) hX dX8_codes_116 (by decide) ?_
            refine g_aload_n hX 1 rfl dX8_codes_177 rfl ?_
            refine g_iconst hX (0) dX8_codes_178 rfl ?_
            refine g_bipush hX (6) dX8_codes_179 rfl ?_
            refine g_aload_n hX 1 rfl dX8_codes_181 rfl ?_
            refine g_getI (i := 0) hX 12 9 q_inX8 (hLs _ (m_lo (by decide))) rfl (by decide) rfl (by decide) rfl q_w4 rfl dX8_codes_182 ?_
            refine g_iload_n hX 0 rfl dX8_codes_185 rfl ?_
            refine g_iadd hX dX8_codes_186 ?_
            refine g_mmin hX q_w5 q_w6 q_w7 q_w8 (Nat.le_of_ble_eq_true rfl) (Nat.le_of_ble_eq_true rfl) (Nat.le_of_ble_eq_true rfl) (Nat.le_of_ble_eq_true rfl) dX8_codes_187 ?_
            refine g_mmax hX q_w9 q_w10 q_w7 q_w11 (Nat.le_of_ble_eq_true rfl) (Nat.le_of_ble_eq_true rfl) (Nat.le_of_ble_eq_true rfl) (Nat.le_of_ble_eq_true rfl) dX8_codes_190 ?_
            refine g_putI hX (i := 0) 12 9 q_inX8 (hLs _ (m_lo (by decide))) rfl (by decide) rfl (by decide) rfl q_w4 rfl tyX8_ok nmX8 rfl (ty := .int) (by decide +kernel) rfl rfl dX8_codes_193 ?_
            refine b_vret hX hE dX8_codes_196 (by omega) (by omega) ?_
            exact congrArg (fun z => (ad, L, pf dT mK mN z Rr ad)) (by rw [codI, if_neg c_8, if_pos c_63]; simp [c_71, c_81, c_96])
          · refine g_aload_n hX 1 rfl dX8_codes_99 rfl ?_
            refine g_getRs (i := 0) hX 12 5 q_inX8 (hLs _ (m_lo (by decide))) rfl (by decide) rfl (by decide) rfl q_w3 rfl (j := 6) ((congrFun (hRs _ (m_lo (by decide))) 5).trans rfl) dX8_codes_100 ?_
            refine g_bipush hX (14) dX8_codes_103 rfl ?_
            refine h_zald (i := 6) hX 14 rfl (by show _ < (16 : Nat); omega) (by decide) (hLs _ (m_lo (by decide))) rfl dX8_codes_105 ?_
            refine g_if_ne (tgt := 113) hX dX8_codes_106 (by decide) (fun c_106 => ?_) (fun c_106 => ?_)
            · refine g_iconst hX (0) dX8_codes_113 rfl ?_
              refine g_isub hX dX8_codes_114 ?_
              refine g_istore_n hX [(2, .int ((0 + 0) - 0)), (0, .ref (ad 0)), (1, .ref (ad 7))] rfl dX8_codes_115 rfl (by decide) ?_
              refine g_goto (tgt := 177) hX dX8_codes_116 (by decide) ?_
              refine g_aload_n hX 1 rfl dX8_codes_177 rfl ?_
              refine g_iconst hX (0) dX8_codes_178 rfl ?_
              refine g_bipush hX (6) dX8_codes_179 rfl ?_
              refine g_aload_n hX 1 rfl dX8_codes_181 rfl ?_
              refine g_getI (i := 0) hX 12 9 q_inX8 (hLs _ (m_lo (by decide))) rfl (by decide) rfl (by decide) rfl q_w4 rfl dX8_codes_182 ?_
              refine g_iload_n hX 0 rfl dX8_codes_185 rfl ?_
              refine g_iadd hX dX8_codes_186 ?_
              refine g_mmin hX q_w5 q_w6 q_w7 q_w8 (Nat.le_of_ble_eq_true rfl) (Nat.le_of_ble_eq_true rfl) (Nat.le_of_ble_eq_true rfl) (Nat.le_of_ble_eq_true rfl) dX8_codes_187 ?_
              refine g_mmax hX q_w9 q_w10 q_w7 q_w11 (Nat.le_of_ble_eq_true rfl) (Nat.le_of_ble_eq_true rfl) (Nat.le_of_ble_eq_true rfl) (Nat.le_of_ble_eq_true rfl) dX8_codes_190 ?_
              refine g_putI hX (i := 0) 12 9 q_inX8 (hLs _ (m_lo (by decide))) rfl (by decide) rfl (by decide) rfl q_w4 rfl tyX8_ok nmX8 rfl (ty := .int) (by decide +kernel) rfl rfl dX8_codes_193 ?_
              refine b_vret hX hE dX8_codes_196 (by omega) (by omega) ?_
              exact congrArg (fun z => (ad, L, pf dT mK mN z Rr ad)) (by rw [codI, if_neg c_8, if_pos c_63]; simp [c_71, c_81, c_96, c_106])
            · refine g_iconst hX (1) dX8_codes_109 rfl ?_
              refine g_goto (tgt := 114) hX dX8_codes_110 (by decide) ?_
              refine g_isub hX dX8_codes_114 ?_
              refine g_istore_n hX [(2, .int ((0 + 0) - 1)), (0, .ref (ad 0)), (1, .ref (ad 7))] rfl dX8_codes_115 rfl (by decide) ?_
              refine g_goto (tgt := 177) hX dX8_codes_116 (by decide) ?_
              refine g_aload_n hX 1 rfl dX8_codes_177 rfl ?_
              refine g_iconst hX (0) dX8_codes_178 rfl ?_
              refine g_bipush hX (6) dX8_codes_179 rfl ?_
              refine g_aload_n hX 1 rfl dX8_codes_181 rfl ?_
              refine g_getI (i := 0) hX 12 9 q_inX8 (hLs _ (m_lo (by decide))) rfl (by decide) rfl (by decide) rfl q_w4 rfl dX8_codes_182 ?_
              refine g_iload_n hX 0 rfl dX8_codes_185 rfl ?_
              refine g_iadd hX dX8_codes_186 ?_
              refine g_mmin hX q_w5 q_w6 q_w7 q_w8 (Nat.le_of_ble_eq_true rfl) (Nat.le_of_ble_eq_true rfl) (Nat.le_of_ble_eq_true rfl) (Nat.le_of_ble_eq_true rfl) dX8_codes_187 ?_
              refine g_mmax hX q_w9 q_w10 q_w7 q_w11 (Nat.le_of_ble_eq_true rfl) (Nat.le_of_ble_eq_true rfl) (Nat.le_of_ble_eq_true rfl) (Nat.le_of_ble_eq_true rfl) dX8_codes_190 ?_
              refine g_putI hX (i := 0) 12 9 q_inX8 (hLs _ (m_lo (by decide))) rfl (by decide) rfl (by decide) rfl q_w4 rfl tyX8_ok nmX8 rfl (ty := .int) (by decide +kernel) rfl rfl dX8_codes_193 ?_
              refine b_vret hX hE dX8_codes_196 (by omega) (by omega) ?_
              exact congrArg (fun z => (ad, L, pf dT mK mN z Rr ad)) (by rw [codI, if_neg c_8, if_pos c_63]; simp [c_71, c_81, c_96, c_106])
        · refine g_iconst hX (1) dX8_codes_84 rfl ?_
          refine g_goto (tgt := 89) hX dX8_codes_85 (by decide) ?_
          refine g_iadd hX dX8_codes_89 ?_
          refine g_istore_n hX [(2, .int (0 + 1)), (0, .ref (ad 0)), (1, .ref (ad 7))] rfl dX8_codes_90 rfl (by decide) ?_
          refine g_iload_n hX 0 rfl dX8_codes_91 rfl ?_
          refine g_aload_n hX 2 rfl dX8_codes_92 rfl ?_
          refine g_bipush hX (14) dX8_codes_93 rfl ?_
          refine h_zald (i := 7) hX 14 rfl (by show _ < (16 : Nat); omega) (by decide) h7 rfl dX8_codes_95 ?_
          refine g_if_eq (tgt := 113) hX dX8_codes_96 (by decide) (fun c_96 => ?_) (fun c_96 => ?_)
          · refine g_iconst hX (0) dX8_codes_113 rfl ?_
            refine g_isub hX dX8_codes_114 ?_
            refine g_istore_n hX [(2, .int ((0 + 1) - 0)), (0, .ref (ad 0)), (1, .ref (ad 7))] rfl dX8_codes_115 rfl (by decide) ?_
            refine g_goto (tgt := 177) hX dX8_codes_116 (by decide) ?_
            refine g_aload_n hX 1 rfl dX8_codes_177 rfl ?_
            refine g_iconst hX (0) dX8_codes_178 rfl ?_
            refine g_bipush hX (6) dX8_codes_179 rfl ?_
            refine g_aload_n hX 1 rfl dX8_codes_181 rfl ?_
            refine g_getI (i := 0) hX 12 9 q_inX8 (hLs _ (m_lo (by decide))) rfl (by decide) rfl (by decide) rfl q_w4 rfl dX8_codes_182 ?_
            refine g_iload_n hX 0 rfl dX8_codes_185 rfl ?_
            refine g_iadd hX dX8_codes_186 ?_
            refine g_mmin hX q_w5 q_w6 q_w7 q_w8 (Nat.le_of_ble_eq_true rfl) (Nat.le_of_ble_eq_true rfl) (Nat.le_of_ble_eq_true rfl) (Nat.le_of_ble_eq_true rfl) dX8_codes_187 ?_
            refine g_mmax hX q_w9 q_w10 q_w7 q_w11 (Nat.le_of_ble_eq_true rfl) (Nat.le_of_ble_eq_true rfl) (Nat.le_of_ble_eq_true rfl) (Nat.le_of_ble_eq_true rfl) dX8_codes_190 ?_
            refine g_putI hX (i := 0) 12 9 q_inX8 (hLs _ (m_lo (by decide))) rfl (by decide) rfl (by decide) rfl q_w4 rfl tyX8_ok nmX8 rfl (ty := .int) (by decide +kernel) rfl rfl dX8_codes_193 ?_
            refine b_vret hX hE dX8_codes_196 (by omega) (by omega) ?_
            exact congrArg (fun z => (ad, L, pf dT mK mN z Rr ad)) (by rw [codI, if_neg c_8, if_pos c_63]; simp [c_71, c_81, c_96])
          · refine g_aload_n hX 1 rfl dX8_codes_99 rfl ?_
            refine g_getRs (i := 0) hX 12 5 q_inX8 (hLs _ (m_lo (by decide))) rfl (by decide) rfl (by decide) rfl q_w3 rfl (j := 6) ((congrFun (hRs _ (m_lo (by decide))) 5).trans rfl) dX8_codes_100 ?_
            refine g_bipush hX (14) dX8_codes_103 rfl ?_
            refine h_zald (i := 6) hX 14 rfl (by show _ < (16 : Nat); omega) (by decide) (hLs _ (m_lo (by decide))) rfl dX8_codes_105 ?_
            refine g_if_ne (tgt := 113) hX dX8_codes_106 (by decide) (fun c_106 => ?_) (fun c_106 => ?_)
            · refine g_iconst hX (0) dX8_codes_113 rfl ?_
              refine g_isub hX dX8_codes_114 ?_
              refine g_istore_n hX [(2, .int ((0 + 1) - 0)), (0, .ref (ad 0)), (1, .ref (ad 7))] rfl dX8_codes_115 rfl (by decide) ?_
              refine g_goto (tgt := 177) hX dX8_codes_116 (by decide) ?_
              refine g_aload_n hX 1 rfl dX8_codes_177 rfl ?_
              refine g_iconst hX (0) dX8_codes_178 rfl ?_
              refine g_bipush hX (6) dX8_codes_179 rfl ?_
              refine g_aload_n hX 1 rfl dX8_codes_181 rfl ?_
              refine g_getI (i := 0) hX 12 9 q_inX8 (hLs _ (m_lo (by decide))) rfl (by decide) rfl (by decide) rfl q_w4 rfl dX8_codes_182 ?_
              refine g_iload_n hX 0 rfl dX8_codes_185 rfl ?_
              refine g_iadd hX dX8_codes_186 ?_
              refine g_mmin hX q_w5 q_w6 q_w7 q_w8 (Nat.le_of_ble_eq_true rfl) (Nat.le_of_ble_eq_true rfl) (Nat.le_of_ble_eq_true rfl) (Nat.le_of_ble_eq_true rfl) dX8_codes_187 ?_
              refine g_mmax hX q_w9 q_w10 q_w7 q_w11 (Nat.le_of_ble_eq_true rfl) (Nat.le_of_ble_eq_true rfl) (Nat.le_of_ble_eq_true rfl) (Nat.le_of_ble_eq_true rfl) dX8_codes_190 ?_
              refine g_putI hX (i := 0) 12 9 q_inX8 (hLs _ (m_lo (by decide))) rfl (by decide) rfl (by decide) rfl q_w4 rfl tyX8_ok nmX8 rfl (ty := .int) (by decide +kernel) rfl rfl dX8_codes_193 ?_
              refine b_vret hX hE dX8_codes_196 (by omega) (by omega) ?_
              exact congrArg (fun z => (ad, L, pf dT mK mN z Rr ad)) (by rw [codI, if_neg c_8, if_pos c_63]; simp [c_71, c_81, c_96, c_106])
            · refine g_iconst hX (1) dX8_codes_109 rfl ?_
              refine g_goto (tgt := 114) hX dX8_codes_110 (by decide) ?_
              refine g_isub hX dX8_codes_114 ?_
              refine g_istore_n hX [(2, .int ((0 + 1) - 1)), (0, .ref (ad 0)), (1, .ref (ad 7))] rfl dX8_codes_115 rfl (by decide) ?_
              refine g_goto (tgt := 177) hX dX8_codes_116 (by decide) ?_
              refine g_aload_n hX 1 rfl dX8_codes_177 rfl ?_
              refine g_iconst hX (0) dX8_codes_178 rfl ?_
              refine g_bipush hX (6) dX8_codes_179 rfl ?_
              refine g_aload_n hX 1 rfl dX8_codes_181 rfl ?_
              refine g_getI (i := 0) hX 12 9 q_inX8 (hLs _ (m_lo (by decide))) rfl (by decide) rfl (by decide) rfl q_w4 rfl dX8_codes_182 ?_
              refine g_iload_n hX 0 rfl dX8_codes_185 rfl ?_
              refine g_iadd hX dX8_codes_186 ?_
              refine g_mmin hX q_w5 q_w6 q_w7 q_w8 (Nat.le_of_ble_eq_true rfl) (Nat.le_of_ble_eq_true rfl) (Nat.le_of_ble_eq_true rfl) (Nat.le_of_ble_eq_true rfl) dX8_codes_187 ?_
              refine g_mmax hX q_w9 q_w10 q_w7 q_w11 (Nat.le_of_ble_eq_true rfl) (Nat.le_of_ble_eq_true rfl) (Nat.le_of_ble_eq_true rfl) (Nat.le_of_ble_eq_true rfl) dX8_codes_190 ?_
              refine g_putI hX (i := 0) 12 9 q_inX8 (hLs _ (m_lo (by decide))) rfl (by decide) rfl (by decide) rfl q_w4 rfl tyX8_ok nmX8 rfl (ty := .int) (by decide +kernel) rfl rfl dX8_codes_193 ?_
              refine b_vret hX hE dX8_codes_196 (by omega) (by omega) ?_
              exact congrArg (fun z => (ad, L, pf dT mK mN z Rr ad)) (by rw [codI, if_neg c_8, if_pos c_63]; simp [c_71, c_81, c_96, c_106])
  · refine g_aload_n hX 1 rfl dX8_codes_11 rfl ?_
    refine g_aload_n hX 2 rfl dX8_codes_12 rfl ?_
    refine g_bipush hX (14) dX8_codes_13 rfl ?_
    refine h_zald (i := 7) hX 14 rfl (by show _ < (16 : Nat); omega) (by decide) h7 rfl dX8_codes_15 ?_
    refine g_if_ne (tgt := 37) hX dX8_codes_16 (by decide) (fun c_16 => ?_) (fun c_16 => ?_)
    · refine g_iconst hX (0) dX8_codes_37 rfl ?_
      refine g_putI hX (i := 0) 12 16 q_inX8 (hLs _ (m_lo (by decide))) rfl (by decide) rfl (by decide) rfl q_w2 rfl tyX8_ok nmX8 rfl (ty := .boolean) (by decide +kernel) rfl rfl dX8_codes_38 ?_
      refine g_aload_n hX 1 rfl dX8_codes_41 rfl ?_
      refine g_getI (i := 0) hX 12 16 q_inX8 (hLs _ (m_lo (by decide))) rfl (by decide) rfl (by decide) rfl q_w2 rfl dX8_codes_42 ?_
      refine g_eqi (y := 0) up2_s ?_
      refine g_if_eq (tgt := 52) hX dX8_codes_45 (by decide) (fun c_45 => ?_) (fun c_45 => ?_)
      · refine g_iconst hX (-1) dX8_codes_52 rfl ?_
        refine g_istore_n hX [(2, .int (-1)), (0, .ref (ad 0)), (1, .ref (ad 7))] rfl dX8_codes_53 rfl (by decide) ?_
        refine g_goto (tgt := 177) hX dX8_codes_54 (by decide) ?_
        refine g_aload_n hX 1 rfl dX8_codes_177 rfl ?_
        refine g_iconst hX (0) dX8_codes_178 rfl ?_
        refine g_bipush hX (6) dX8_codes_179 rfl ?_
        refine g_aload_n hX 1 rfl dX8_codes_181 rfl ?_
        refine g_getI (i := 0) hX 12 9 q_inX8 (hLs _ (m_lo (by decide))) rfl (by decide) rfl (by decide) rfl q_w4 rfl dX8_codes_182 ?_
        refine g_eqi (y := (M 0 9)) (up2_n (Or.inr (by decide))) ?_
        refine g_iload_n hX 0 rfl dX8_codes_185 rfl ?_
        refine g_iadd hX dX8_codes_186 ?_
        refine g_mmin hX q_w5 q_w6 q_w7 q_w8 (Nat.le_of_ble_eq_true rfl) (Nat.le_of_ble_eq_true rfl) (Nat.le_of_ble_eq_true rfl) (Nat.le_of_ble_eq_true rfl) dX8_codes_187 ?_
        refine g_mmax hX q_w9 q_w10 q_w7 q_w11 (Nat.le_of_ble_eq_true rfl) (Nat.le_of_ble_eq_true rfl) (Nat.le_of_ble_eq_true rfl) (Nat.le_of_ble_eq_true rfl) dX8_codes_190 ?_
        refine g_putI hX (i := 0) 12 9 q_inX8 (hLs _ (m_lo (by decide))) rfl (by decide) rfl (by decide) rfl q_w4 rfl tyX8_ok nmX8 rfl (ty := .int) (by decide +kernel) rfl rfl dX8_codes_193 ?_
        refine b_vret hX hE dX8_codes_196 (by omega) (by omega) ?_
        exact congrArg (fun z => (ad, L, pf dT mK mN z Rr ad)) (by rw [codI, if_pos c_8]; simp [c_16])
      · first | exact absurd c_45 (by decide) | exact absurd (by decide) c_45
    · refine g_aload_n hX 2 rfl dX8_codes_19 rfl ?_
      refine g_bipush hX (13) dX8_codes_20 rfl ?_
      refine h_zald (i := 7) hX 13 rfl (by show _ < (16 : Nat); omega) (by decide) h7 rfl dX8_codes_22 ?_
      refine g_if_ne (tgt := 33) hX dX8_codes_23 (by decide) (fun c_23 => ?_) (fun c_23 => ?_)
      · refine g_iconst hX (1) dX8_codes_33 rfl ?_
        refine g_goto (tgt := 38) hX dX8_codes_34 (by decide) ?_
        refine g_putI hX (i := 0) 12 16 q_inX8 (hLs _ (m_lo (by decide))) rfl (by decide) rfl (by decide) rfl q_w2 rfl tyX8_ok nmX8 rfl (ty := .boolean) (by decide +kernel) rfl rfl dX8_codes_38 ?_
        refine g_aload_n hX 1 rfl dX8_codes_41 rfl ?_
        refine g_getI (i := 0) hX 12 16 q_inX8 (hLs _ (m_lo (by decide))) rfl (by decide) rfl (by decide) rfl q_w2 rfl dX8_codes_42 ?_
        refine g_eqi (y := 1) up2_s ?_
        refine g_if_eq (tgt := 52) hX dX8_codes_45 (by decide) (fun c_45 => ?_) (fun c_45 => ?_)
        · first | exact absurd c_45 (by decide) | exact absurd (by decide) c_45
        · refine g_iconst hX (1) dX8_codes_48 rfl ?_
          refine g_goto (tgt := 53) hX dX8_codes_49 (by decide) ?_
          refine g_istore_n hX [(2, .int 1), (0, .ref (ad 0)), (1, .ref (ad 7))] rfl dX8_codes_53 rfl (by decide) ?_
          refine g_goto (tgt := 177) hX dX8_codes_54 (by decide) ?_
          refine g_aload_n hX 1 rfl dX8_codes_177 rfl ?_
          refine g_iconst hX (0) dX8_codes_178 rfl ?_
          refine g_bipush hX (6) dX8_codes_179 rfl ?_
          refine g_aload_n hX 1 rfl dX8_codes_181 rfl ?_
          refine g_getI (i := 0) hX 12 9 q_inX8 (hLs _ (m_lo (by decide))) rfl (by decide) rfl (by decide) rfl q_w4 rfl dX8_codes_182 ?_
          refine g_eqi (y := (M 0 9)) (up2_n (Or.inr (by decide))) ?_
          refine g_iload_n hX 0 rfl dX8_codes_185 rfl ?_
          refine g_iadd hX dX8_codes_186 ?_
          refine g_mmin hX q_w5 q_w6 q_w7 q_w8 (Nat.le_of_ble_eq_true rfl) (Nat.le_of_ble_eq_true rfl) (Nat.le_of_ble_eq_true rfl) (Nat.le_of_ble_eq_true rfl) dX8_codes_187 ?_
          refine g_mmax hX q_w9 q_w10 q_w7 q_w11 (Nat.le_of_ble_eq_true rfl) (Nat.le_of_ble_eq_true rfl) (Nat.le_of_ble_eq_true rfl) (Nat.le_of_ble_eq_true rfl) dX8_codes_190 ?_
          refine g_putI hX (i := 0) 12 9 q_inX8 (hLs _ (m_lo (by decide))) rfl (by decide) rfl (by decide) rfl q_w4 rfl tyX8_ok nmX8 rfl (ty := .int) (by decide +kernel) rfl rfl dX8_codes_193 ?_
          refine b_vret hX hE dX8_codes_196 (by omega) (by omega) ?_
          exact congrArg (fun z => (ad, L, pf dT mK mN z Rr ad)) (by rw [codI, if_pos c_8]; simp [c_16, c_23])
      · refine g_aload_n hX 1 rfl dX8_codes_26 rfl ?_
        refine g_getI (i := 0) hX 12 16 q_inX8 (hLs _ (m_lo (by decide))) rfl (by decide) rfl (by decide) rfl q_w2 rfl dX8_codes_27 ?_
        refine g_if_eq (tgt := 37) hX dX8_codes_30 (by decide) (fun c_30 => ?_) (fun c_30 => ?_)
        · refine g_iconst hX (0) dX8_codes_37 rfl ?_
          refine g_putI hX (i := 0) 12 16 q_inX8 (hLs _ (m_lo (by decide))) rfl (by decide) rfl (by decide) rfl q_w2 rfl tyX8_ok nmX8 rfl (ty := .boolean) (by decide +kernel) rfl rfl dX8_codes_38 ?_
          refine g_aload_n hX 1 rfl dX8_codes_41 rfl ?_
          refine g_getI (i := 0) hX 12 16 q_inX8 (hLs _ (m_lo (by decide))) rfl (by decide) rfl (by decide) rfl q_w2 rfl dX8_codes_42 ?_
          refine g_eqi (y := 0) up2_s ?_
          refine g_if_eq (tgt := 52) hX dX8_codes_45 (by decide) (fun c_45 => ?_) (fun c_45 => ?_)
          · refine g_iconst hX (-1) dX8_codes_52 rfl ?_
            refine g_istore_n hX [(2, .int (-1)), (0, .ref (ad 0)), (1, .ref (ad 7))] rfl dX8_codes_53 rfl (by decide) ?_
            refine g_goto (tgt := 177) hX dX8_codes_54 (by decide) ?_
            refine g_aload_n hX 1 rfl dX8_codes_177 rfl ?_
            refine g_iconst hX (0) dX8_codes_178 rfl ?_
            refine g_bipush hX (6) dX8_codes_179 rfl ?_
            refine g_aload_n hX 1 rfl dX8_codes_181 rfl ?_
            refine g_getI (i := 0) hX 12 9 q_inX8 (hLs _ (m_lo (by decide))) rfl (by decide) rfl (by decide) rfl q_w4 rfl dX8_codes_182 ?_
            refine g_eqi (y := (M 0 9)) (up2_n (Or.inr (by decide))) ?_
            refine g_iload_n hX 0 rfl dX8_codes_185 rfl ?_
            refine g_iadd hX dX8_codes_186 ?_
            refine g_mmin hX q_w5 q_w6 q_w7 q_w8 (Nat.le_of_ble_eq_true rfl) (Nat.le_of_ble_eq_true rfl) (Nat.le_of_ble_eq_true rfl) (Nat.le_of_ble_eq_true rfl) dX8_codes_187 ?_
            refine g_mmax hX q_w9 q_w10 q_w7 q_w11 (Nat.le_of_ble_eq_true rfl) (Nat.le_of_ble_eq_true rfl) (Nat.le_of_ble_eq_true rfl) (Nat.le_of_ble_eq_true rfl) dX8_codes_190 ?_
            refine g_putI hX (i := 0) 12 9 q_inX8 (hLs _ (m_lo (by decide))) rfl (by decide) rfl (by decide) rfl q_w4 rfl tyX8_ok nmX8 rfl (ty := .int) (by decide +kernel) rfl rfl dX8_codes_193 ?_
            refine b_vret hX hE dX8_codes_196 (by omega) (by omega) ?_
            exact congrArg (fun z => (ad, L, pf dT mK mN z Rr ad)) (by rw [codI, if_pos c_8]; simp [c_16, c_23, c_30])
          · first | exact absurd c_45 (by decide) | exact absurd (by decide) c_45
        · refine g_iconst hX (1) dX8_codes_33 rfl ?_
          refine g_goto (tgt := 38) hX dX8_codes_34 (by decide) ?_
          refine g_putI hX (i := 0) 12 16 q_inX8 (hLs _ (m_lo (by decide))) rfl (by decide) rfl (by decide) rfl q_w2 rfl tyX8_ok nmX8 rfl (ty := .boolean) (by decide +kernel) rfl rfl dX8_codes_38 ?_
          refine g_aload_n hX 1 rfl dX8_codes_41 rfl ?_
          refine g_getI (i := 0) hX 12 16 q_inX8 (hLs _ (m_lo (by decide))) rfl (by decide) rfl (by decide) rfl q_w2 rfl dX8_codes_42 ?_
          refine g_eqi (y := 1) up2_s ?_
          refine g_if_eq (tgt := 52) hX dX8_codes_45 (by decide) (fun c_45 => ?_) (fun c_45 => ?_)
          · first | exact absurd c_45 (by decide) | exact absurd (by decide) c_45
          · refine g_iconst hX (1) dX8_codes_48 rfl ?_
            refine g_goto (tgt := 53) hX dX8_codes_49 (by decide) ?_
            refine g_istore_n hX [(2, .int 1), (0, .ref (ad 0)), (1, .ref (ad 7))] rfl dX8_codes_53 rfl (by decide) ?_
            refine g_goto (tgt := 177) hX dX8_codes_54 (by decide) ?_
            refine g_aload_n hX 1 rfl dX8_codes_177 rfl ?_
            refine g_iconst hX (0) dX8_codes_178 rfl ?_
            refine g_bipush hX (6) dX8_codes_179 rfl ?_
            refine g_aload_n hX 1 rfl dX8_codes_181 rfl ?_
            refine g_getI (i := 0) hX 12 9 q_inX8 (hLs _ (m_lo (by decide))) rfl (by decide) rfl (by decide) rfl q_w4 rfl dX8_codes_182 ?_
            refine g_eqi (y := (M 0 9)) (up2_n (Or.inr (by decide))) ?_
            refine g_iload_n hX 0 rfl dX8_codes_185 rfl ?_
            refine g_iadd hX dX8_codes_186 ?_
            refine g_mmin hX q_w5 q_w6 q_w7 q_w8 (Nat.le_of_ble_eq_true rfl) (Nat.le_of_ble_eq_true rfl) (Nat.le_of_ble_eq_true rfl) (Nat.le_of_ble_eq_true rfl) dX8_codes_187 ?_
            refine g_mmax hX q_w9 q_w10 q_w7 q_w11 (Nat.le_of_ble_eq_true rfl) (Nat.le_of_ble_eq_true rfl) (Nat.le_of_ble_eq_true rfl) (Nat.le_of_ble_eq_true rfl) dX8_codes_190 ?_
            refine g_putI hX (i := 0) 12 9 q_inX8 (hLs _ (m_lo (by decide))) rfl (by decide) rfl (by decide) rfl q_w4 rfl tyX8_ok nmX8 rfl (ty := .int) (by decide +kernel) rfl rfl dX8_codes_193 ?_
            refine b_vret hX hE dX8_codes_196 (by omega) (by omega) ?_
            exact congrArg (fun z => (ad, L, pf dT mK mN z Rr ad)) (by rw [codI, if_pos c_8]; simp [c_16, c_23, c_30])
abbrev rm_X8_borrow : Room := { frames := 2, cells := 0, slots := 0, locals := 42 }
theorem hd_X8_borrow : yX8_borrow.cls = RX8 ∧ yX8_borrow.cls ≠ "java/lang/invoke/MethodHandle" ∧ yX8_borrow.cls ≠ "java/lang/invoke/VarHandle" ∧ (parseMethodDescriptor yX8_borrow.desc).map (fun d => d.parameters.length) = some 2 := by decide +kernel
set_option maxRecDepth 100000 in
set_option maxHeartbeats 4000000 in
theorem k_X8_borrow {D : va_G} {dT : Nat → ClassId} {Z : ZT} {ad : Nat → Nat} (M : Nat → Nat → Int32) (S : SZ) (hS : WS S) (hw1 : M 1 2 = nI S.1) (hw2 : M 2 2 = nI S.2.1) (hw3 : M 3 2 = nI S.2.2.1) (n w : Int32) : ∀ l8, BI l8 yX8_borrow wsX8_borrow rm_X8_borrow D (tyl dT) Z ad (mL S) (pf dT mK mN M (mR S) ad) [.ref (ad 0), .int n, .int w] 0 0 (fun r u => u = (ad, mL S, mf dT ad (if boC M n w = 0 then up2 (up2 M 0 15 0) (20 + n.toNatClampNeg) 3 w else up2 M 0 15 (boC M n w)) S) ∧ (if boC M n w = 0 then M (20 + n.toNatClampNeg) 3 else 0) = r) := by
  intro l9
  refine bi_of (own := RX8) (cc := cX8_borrow) (maxL := 5) (some .int) [(0, .ref (ad 0)), (1, .int n), (2, .int w)] (by decide) rfl rfl rfl (Nat.le_of_ble_eq_true rfl) ?_
  intro X hX hE hN hM
  have q_w1 : Cond.fieldLink RX8 24 "PerforatumModel" "valves" "[LPerforatumModel$Valve;" ∈ wsX8_borrow := List.mem_of_getElem? (i := 1) rfl
  have q_inX8 : ∀ w ∈ wsX80, w ∈ wsX8_borrow := by decide +kernel
  have q_w2 : Cond.fieldLink RX8 48 "PerforatumModel$Valve" "from" "I" ∈ wsX8_borrow := List.mem_of_getElem? (i := 2) rfl
  have q_inX7 : ∀ w ∈ wsX70, w ∈ wsX8_borrow := by decide +kernel
  have hS1 := hS.1
  have hS2 := hS.2.1
  have hS3 := hS.2.2.1
  refine g_aload_n hX 0 rfl dX8_borrow_0 rfl ?_
  refine g_iload_n hX 1 rfl dX8_borrow_1 rfl ?_
  refine b_callI_S hX hM [.int n] (k_X8_isNote n) gX8_borrow_X8_isNote rfl rfl rfl hd_X8_isNote.2 ⟨Nat.le_of_ble_eq_true rfl, Nat.le_of_ble_eq_true rfl⟩ ⟨Nat.le_of_ble_eq_true rfl, Nat.le_of_ble_eq_true rfl⟩ rfl (Nat.le_of_ble_eq_true rfl) dX8_borrow_2 (fun r9 ad9 L9 f9 hp9 => ?_)
  obtain ⟨he9, hr9⟩ := hp9
  cases he9
  subst hr9
  refine g_if_eq (tgt := 19) hX dX8_borrow_5 (by decide) (fun c_5 => ?_) (fun c_5 => ?_)
  · refine g_iconst hX (0) dX8_borrow_19 rfl ?_
    refine g_iconst hX (1) dX8_borrow_20 rfl ?_
    refine b_callI_V hX hM (b := 0) [.int 0, .int 1] (m_lo (by decide)) (pf_obj rfl (by decide)) rfl (k_X8_no (m_lo (by decide)) rfl 0 1) gX8_borrow_X8_no rfl rfl rfl hd_X8_no ⟨Nat.le_of_ble_eq_true rfl, Nat.le_of_ble_eq_true rfl⟩ ⟨Nat.le_of_ble_eq_true rfl, Nat.le_of_ble_eq_true rfl⟩ rfl (Nat.le_of_ble_eq_true rfl) dX8_borrow_21 (fun r9 ad9 L9 f9 hp9 => ?_)
    obtain ⟨he9, hr9⟩ := hp9
    cases he9
    subst hr9
    rw [show (if (0 : Int32) = 0 then (1 : Int32) else 0) = 1 from by decide]
    refine g_eqi (y := 1) (by decide) ?_
    refine g_if_eq (tgt := 29) hX dX8_borrow_24 (by decide) (fun c_24 => ?_) (fun c_24 => ?_)
    · first | exact absurd c_24 (by decide) | exact absurd (by decide) c_24
    · refine g_iconst hX (0) dX8_borrow_27 rfl ?_
      refine b_iret hX hE dX8_borrow_28 (by omega) (by omega) ?_
      exact ⟨congrArg (fun z => (ad, mL S, mf dT ad z S)) (by simp [up2_ss, boC, c_5]), by simp [boC, c_5]⟩
  · refine g_iload_n hX 2 rfl dX8_borrow_8 rfl ?_
    refine b_callI_S hX hM [.int w] (k_X8_isNote w) gX8_borrow_X8_isNote rfl rfl rfl hd_X8_isNote.2 ⟨Nat.le_of_ble_eq_true rfl, Nat.le_of_ble_eq_true rfl⟩ ⟨Nat.le_of_ble_eq_true rfl, Nat.le_of_ble_eq_true rfl⟩ rfl (Nat.le_of_ble_eq_true rfl) dX8_borrow_9 (fun r9 ad9 L9 f9 hp9 => ?_)
    obtain ⟨he9, hr9⟩ := hp9
    cases he9
    subst hr9
    refine g_if_eq (tgt := 19) hX dX8_borrow_12 (by decide) (fun c_12 => ?_) (fun c_12 => ?_)
    · refine g_iconst hX (0) dX8_borrow_19 rfl ?_
      refine g_iconst hX (1) dX8_borrow_20 rfl ?_
      refine b_callI_V hX hM (b := 0) [.int 0, .int 1] (m_lo (by decide)) (pf_obj rfl (by decide)) rfl (k_X8_no (m_lo (by decide)) rfl 0 1) gX8_borrow_X8_no rfl rfl rfl hd_X8_no ⟨Nat.le_of_ble_eq_true rfl, Nat.le_of_ble_eq_true rfl⟩ ⟨Nat.le_of_ble_eq_true rfl, Nat.le_of_ble_eq_true rfl⟩ rfl (Nat.le_of_ble_eq_true rfl) dX8_borrow_21 (fun r9 ad9 L9 f9 hp9 => ?_)
      obtain ⟨he9, hr9⟩ := hp9
      cases he9
      subst hr9
      rw [show (if (0 : Int32) = 0 then (1 : Int32) else 0) = 1 from by decide]
      refine g_eqi (y := 1) (by decide) ?_
      refine g_if_eq (tgt := 29) hX dX8_borrow_24 (by decide) (fun c_24 => ?_) (fun c_24 => ?_)
      · first | exact absurd c_24 (by decide) | exact absurd (by decide) c_24
      · refine g_iconst hX (0) dX8_borrow_27 rfl ?_
        refine b_iret hX hE dX8_borrow_28 (by omega) (by omega) ?_
        exact ⟨congrArg (fun z => (ad, mL S, mf dT ad z S)) (by simp [up2_ss, boC, c_5, c_12]), by simp [boC, c_5, c_12]⟩
    · refine g_iconst hX (1) dX8_borrow_15 rfl ?_
      refine g_goto (tgt := 20) hX dX8_borrow_16 (by decide) ?_
      refine g_iconst hX (1) dX8_borrow_20 rfl ?_
      refine b_callI_V hX hM (b := 0) [.int 1, .int 1] (m_lo (by decide)) (pf_obj rfl (by decide)) rfl (k_X8_no (m_lo (by decide)) rfl 1 1) gX8_borrow_X8_no rfl rfl rfl hd_X8_no ⟨Nat.le_of_ble_eq_true rfl, Nat.le_of_ble_eq_true rfl⟩ ⟨Nat.le_of_ble_eq_true rfl, Nat.le_of_ble_eq_true rfl⟩ rfl (Nat.le_of_ble_eq_true rfl) dX8_borrow_21 (fun r9 ad9 L9 f9 hp9 => ?_)
      obtain ⟨he9, hr9⟩ := hp9
      cases he9
      subst hr9
      rw [show (if (1 : Int32) = 0 then (1 : Int32) else 0) = 0 from by decide]
      refine g_eqi (y := 0) (by decide) ?_
      refine g_if_eq (tgt := 29) hX dX8_borrow_24 (by decide) (fun c_24 => ?_) (fun c_24 => ?_)
      · obtain ⟨i, hi, rfl⟩ := isi_k (n := 11) c_5 (by decide) (by decide)
        obtain ⟨o, ho, rfl⟩ := isi_k (n := 11) c_12 (by decide) (by decide)
        refine g_iconst hX (0) dX8_borrow_29 rfl ?_
        refine g_istore_n hX [(3, .int 0), (0, .ref (ad 0)), (1, .int (nI i)), (2, .int (nI o))] rfl dX8_borrow_30 rfl (by decide) ?_
        refine g_iconst hX (0) dX8_borrow_31 rfl ?_
        refine g_istore hX [(4, .int 0), (3, .int 0), (0, .ref (ad 0)), (1, .int (nI i)), (2, .int (nI o))] rfl dX8_borrow_32 (by decide) ?_
        have lp_34 : ∀ (n9 : Nat) (k : Nat) (q : Int32), 12 - k < n9 → (k ≤ 12) → (q = lenB M (nI i) k) → GG X D ad (mL S) (pf dT mK mN (up2 M 0 15 0) (mR S) ad) [(4, .int (nI k)), (3, .int q), (0, .ref (ad 0)), (1, .int (nI i)), (2, .int (nI o))] (0) (0) 34 [] := by
          intro n9
          induction n9 with
          | zero => intro k q h9; exact absurd h9 (Nat.not_lt_zero _)
          | succ n9 ih9 =>
            intro k q h9 hk hq
            have ih_34 := ih9
            refine g_iload hX 0 rfl dX8_borrow_34 ?_
            refine g_bipush hX (12) dX8_borrow_36 rfl ?_
            refine g_icmp_ge (tgt := 75) hX dX8_borrow_38 (by decide) (fun c_38 => ?_) (fun c_38 => ?_)
            · have c_38 : 12 ≤ k := (nI_leI (a := 12) (b := k) (by omega) (by omega)).mp c_38
              have hq12 : q = lenB M (nI i) 12 := by rw [hq, show k = 12 by omega]
              refine g_aload_n hX 2 rfl dX8_borrow_75 rfl ?_
              refine g_iload_n hX 4 rfl dX8_borrow_76 rfl ?_
              refine g_iload_n hX 3 rfl dX8_borrow_77 rfl ?_
              refine g_icmp_eq (tgt := 98) hX dX8_borrow_78 (by decide) (fun c_78 => ?_) (fun c_78 => ?_)
              · have c_78 := c_78
                refine g_iconst hX (1) dX8_borrow_98 rfl ?_
                refine g_goto (tgt := 103) hX dX8_borrow_99 (by decide) ?_
                refine g_iconst hX (2) dX8_borrow_103 rfl ?_
                refine b_callI_V hX hM (b := 0) [.int 1, .int 2] (m_lo (by decide)) (pf_obj rfl (by decide)) rfl (k_X8_no (m_lo (by decide)) rfl 1 2) gX8_borrow_X8_no rfl rfl rfl hd_X8_no ⟨Nat.le_of_ble_eq_true rfl, Nat.le_of_ble_eq_true rfl⟩ ⟨Nat.le_of_ble_eq_true rfl, Nat.le_of_ble_eq_true rfl⟩ rfl (Nat.le_of_ble_eq_true rfl) dX8_borrow_104 (fun r9 ad9 L9 f9 hp9 => ?_)
                obtain ⟨he9, hr9⟩ := hp9
                cases he9
                subst hr9
                rw [show (if (1 : Int32) = 0 then (2 : Int32) else 0) = 0 from by decide]
                refine g_eqi (y := 0) (by decide) ?_
                refine g_if_eq (tgt := 112) hX dX8_borrow_107 (by decide) (fun c_107 => ?_) (fun c_107 => ?_)
                · refine g_aload_n hX 2 rfl dX8_borrow_112 rfl ?_
                  refine g_getRs (i := 0) hX 12 3 q_inX8 (m_lo (by decide)) rfl (by decide) rfl (by decide) rfl q_w1 rfl (j := 4) rfl dX8_borrow_113 ?_
                  refine g_iload_n hX 3 rfl dX8_borrow_116 rfl ?_
                  refine h_aald24 (i := 4) hX i rfl (by show _ < (12 : Nat); omega) (by decide) (j := (20 + i)) (mR_v (by omega)) (m_lo (by decide)) rfl dX8_borrow_117 ?_
                  refine g_getI (i := (20 + i)) hX 11 3 q_inX7 (m_v (by omega)) (mK_v (by omega)) (by decide) rfl (by decide) rfl q_w2 rfl dX8_borrow_118 ?_
                  refine g_eqi (y := (M (20 + i) 3)) ((up2_n (Or.inl (by omega))).trans (up2_n (Or.inl (by omega)))) ?_
                  refine g_istore hX [(4, .int (M (20 + i) 3)), (3, .int q), (0, .ref (ad 0)), (1, .int (nI i)), (2, .int (nI o))] rfl dX8_borrow_121 (by decide) ?_
                  refine g_aload_n hX 2 rfl dX8_borrow_123 rfl ?_
                  refine g_getRs (i := 0) hX 12 3 q_inX8 (m_lo (by decide)) rfl (by decide) rfl (by decide) rfl q_w1 rfl (j := 4) rfl dX8_borrow_124 ?_
                  refine g_iload_n hX 3 rfl dX8_borrow_127 rfl ?_
                  refine h_aald24 (i := 4) hX i rfl (by show _ < (12 : Nat); omega) (by decide) (j := (20 + i)) (mR_v (by omega)) (m_lo (by decide)) rfl dX8_borrow_128 ?_
                  refine g_iload_n hX 4 rfl dX8_borrow_129 rfl ?_
                  refine g_putI hX (i := (20 + i)) 11 3 q_inX7 (m_v (by omega)) (mK_v (by omega)) (by decide) rfl (by decide) rfl q_w2 rfl tyX7_ok nmX7 rfl (ty := .int) (by decide +kernel) rfl rfl dX8_borrow_130 ?_
                  refine g_iload hX 0 rfl dX8_borrow_133 ?_
                  refine b_iret hX hE dX8_borrow_135 (by omega) (by omega) ?_
                  exact ⟨congrArg (fun z => (ad, mL S, mf dT ad z S)) (by simp [up2_ss, boC, c_5, c_12, c_78, nI_clamp (n := i) (by omega), nI_clamp (n := o) (by omega), ← hq12]), by simp [boC, c_5, c_12, c_78, nI_clamp (n := i) (by omega), nI_clamp (n := o) (by omega), ← hq12]⟩
                · first | exact absurd c_107 (by decide) | exact absurd (by decide) c_107
              · have c_78 := c_78
                refine g_aload_n hX 2 rfl dX8_borrow_81 rfl ?_
                refine g_getRs (i := 0) hX 12 3 q_inX8 (m_lo (by decide)) rfl (by decide) rfl (by decide) rfl q_w1 rfl (j := 4) rfl dX8_borrow_82 ?_
                refine g_iload_n hX 4 rfl dX8_borrow_85 rfl ?_
                refine h_aald24 (i := 4) hX o rfl (by show _ < (12 : Nat); omega) (by decide) (j := (20 + o)) (mR_v (by omega)) (m_lo (by decide)) rfl dX8_borrow_86 ?_
                refine g_getI (i := (20 + o)) hX 11 3 q_inX7 (m_v (by omega)) (mK_v (by omega)) (by decide) rfl (by decide) rfl q_w2 rfl dX8_borrow_87 ?_
                refine g_eqi (y := (M (20 + o) 3)) (up2_n (Or.inl (by omega))) ?_
                refine g_iload_n hX 4 rfl dX8_borrow_90 rfl ?_
                refine g_icmp_ne (tgt := 102) hX dX8_borrow_91 (by decide) (fun c_91 => ?_) (fun c_91 => ?_)
                · refine g_iconst hX (0) dX8_borrow_102 rfl ?_
                  refine g_iconst hX (2) dX8_borrow_103 rfl ?_
                  refine b_callI_V hX hM (b := 0) [.int 0, .int 2] (m_lo (by decide)) (pf_obj rfl (by decide)) rfl (k_X8_no (m_lo (by decide)) rfl 0 2) gX8_borrow_X8_no rfl rfl rfl hd_X8_no ⟨Nat.le_of_ble_eq_true rfl, Nat.le_of_ble_eq_true rfl⟩ ⟨Nat.le_of_ble_eq_true rfl, Nat.le_of_ble_eq_true rfl⟩ rfl (Nat.le_of_ble_eq_true rfl) dX8_borrow_104 (fun r9 ad9 L9 f9 hp9 => ?_)
                  obtain ⟨he9, hr9⟩ := hp9
                  cases he9
                  subst hr9
                  rw [show (if (0 : Int32) = 0 then (2 : Int32) else 0) = 2 from by decide]
                  refine g_eqi (y := 1) (by decide) ?_
                  refine g_if_eq (tgt := 112) hX dX8_borrow_107 (by decide) (fun c_107 => ?_) (fun c_107 => ?_)
                  · first | exact absurd c_107 (by decide) | exact absurd (by decide) c_107
                  · refine g_iconst hX (0) dX8_borrow_110 rfl ?_
                    refine b_iret hX hE dX8_borrow_111 (by omega) (by omega) ?_
                    exact ⟨congrArg (fun z => (ad, mL S, mf dT ad z S)) (by simp [up2_ss, boC, c_5, c_12, c_78, c_91, nI_clamp (n := i) (by omega), nI_clamp (n := o) (by omega), ← hq12]), by simp [boC, c_5, c_12, c_78, c_91, nI_clamp (n := i) (by omega), nI_clamp (n := o) (by omega), ← hq12]⟩
                · refine g_iload_n hX 1 rfl dX8_borrow_94 rfl ?_
                  refine g_if_ne (tgt := 102) hX dX8_borrow_95 (by decide) (fun c_95 => ?_) (fun c_95 => ?_)
                  · refine g_iconst hX (0) dX8_borrow_102 rfl ?_
                    refine g_iconst hX (2) dX8_borrow_103 rfl ?_
                    refine b_callI_V hX hM (b := 0) [.int 0, .int 2] (m_lo (by decide)) (pf_obj rfl (by decide)) rfl (k_X8_no (m_lo (by decide)) rfl 0 2) gX8_borrow_X8_no rfl rfl rfl hd_X8_no ⟨Nat.le_of_ble_eq_true rfl, Nat.le_of_ble_eq_true rfl⟩ ⟨Nat.le_of_ble_eq_true rfl, Nat.le_of_ble_eq_true rfl⟩ rfl (Nat.le_of_ble_eq_true rfl) dX8_borrow_104 (fun r9 ad9 L9 f9 hp9 => ?_)
                    obtain ⟨he9, hr9⟩ := hp9
                    cases he9
                    subst hr9
                    rw [show (if (0 : Int32) = 0 then (2 : Int32) else 0) = 2 from by decide]
                    refine g_eqi (y := 1) (by decide) ?_
                    refine g_if_eq (tgt := 112) hX dX8_borrow_107 (by decide) (fun c_107 => ?_) (fun c_107 => ?_)
                    · first | exact absurd c_107 (by decide) | exact absurd (by decide) c_107
                    · refine g_iconst hX (0) dX8_borrow_110 rfl ?_
                      refine b_iret hX hE dX8_borrow_111 (by omega) (by omega) ?_
                      exact ⟨congrArg (fun z => (ad, mL S, mf dT ad z S)) (by simp [up2_ss, boC, c_5, c_12, c_78, c_91, c_95, nI_clamp (n := i) (by omega), nI_clamp (n := o) (by omega), ← hq12]), by simp [boC, c_5, c_12, c_78, c_91, c_95, nI_clamp (n := i) (by omega), nI_clamp (n := o) (by omega), ← hq12]⟩
                  · refine g_iconst hX (1) dX8_borrow_98 rfl ?_
                    refine g_goto (tgt := 103) hX dX8_borrow_99 (by decide) ?_
                    refine g_iconst hX (2) dX8_borrow_103 rfl ?_
                    refine b_callI_V hX hM (b := 0) [.int 1, .int 2] (m_lo (by decide)) (pf_obj rfl (by decide)) rfl (k_X8_no (m_lo (by decide)) rfl 1 2) gX8_borrow_X8_no rfl rfl rfl hd_X8_no ⟨Nat.le_of_ble_eq_true rfl, Nat.le_of_ble_eq_true rfl⟩ ⟨Nat.le_of_ble_eq_true rfl, Nat.le_of_ble_eq_true rfl⟩ rfl (Nat.le_of_ble_eq_true rfl) dX8_borrow_104 (fun r9 ad9 L9 f9 hp9 => ?_)
                    obtain ⟨he9, hr9⟩ := hp9
                    cases he9
                    subst hr9
                    rw [show (if (1 : Int32) = 0 then (2 : Int32) else 0) = 0 from by decide]
                    refine g_eqi (y := 0) (by decide) ?_
                    refine g_if_eq (tgt := 112) hX dX8_borrow_107 (by decide) (fun c_107 => ?_) (fun c_107 => ?_)
                    · refine g_aload_n hX 2 rfl dX8_borrow_112 rfl ?_
                      refine g_getRs (i := 0) hX 12 3 q_inX8 (m_lo (by decide)) rfl (by decide) rfl (by decide) rfl q_w1 rfl (j := 4) rfl dX8_borrow_113 ?_
                      refine g_iload_n hX 3 rfl dX8_borrow_116 rfl ?_
                      refine h_aald24 (i := 4) hX i rfl (by show _ < (12 : Nat); omega) (by decide) (j := (20 + i)) (mR_v (by omega)) (m_lo (by decide)) rfl dX8_borrow_117 ?_
                      refine g_getI (i := (20 + i)) hX 11 3 q_inX7 (m_v (by omega)) (mK_v (by omega)) (by decide) rfl (by decide) rfl q_w2 rfl dX8_borrow_118 ?_
                      refine g_eqi (y := (M (20 + i) 3)) ((up2_n (Or.inl (by omega))).trans (up2_n (Or.inl (by omega)))) ?_
                      refine g_istore hX [(4, .int (M (20 + i) 3)), (3, .int q), (0, .ref (ad 0)), (1, .int (nI i)), (2, .int (nI o))] rfl dX8_borrow_121 (by decide) ?_
                      refine g_aload_n hX 2 rfl dX8_borrow_123 rfl ?_
                      refine g_getRs (i := 0) hX 12 3 q_inX8 (m_lo (by decide)) rfl (by decide) rfl (by decide) rfl q_w1 rfl (j := 4) rfl dX8_borrow_124 ?_
                      refine g_iload_n hX 3 rfl dX8_borrow_127 rfl ?_
                      refine h_aald24 (i := 4) hX i rfl (by show _ < (12 : Nat); omega) (by decide) (j := (20 + i)) (mR_v (by omega)) (m_lo (by decide)) rfl dX8_borrow_128 ?_
                      refine g_iload_n hX 4 rfl dX8_borrow_129 rfl ?_
                      refine g_putI hX (i := (20 + i)) 11 3 q_inX7 (m_v (by omega)) (mK_v (by omega)) (by decide) rfl (by decide) rfl q_w2 rfl tyX7_ok nmX7 rfl (ty := .int) (by decide +kernel) rfl rfl dX8_borrow_130 ?_
                      refine g_iload hX 0 rfl dX8_borrow_133 ?_
                      refine b_iret hX hE dX8_borrow_135 (by omega) (by omega) ?_
                      exact ⟨congrArg (fun z => (ad, mL S, mf dT ad z S)) (by simp [up2_ss, boC, c_5, c_12, c_78, c_91, c_95, nI_clamp (n := i) (by omega), nI_clamp (n := o) (by omega), ← hq12]), by simp [boC, c_5, c_12, c_78, c_91, c_95, nI_clamp (n := i) (by omega), nI_clamp (n := o) (by omega), ← hq12]⟩
                    · first | exact absurd c_107 (by decide) | exact absurd (by decide) c_107
            · have c_38 : ¬ 12 ≤ k := fun h9 => c_38 ((nI_leI (a := 12) (b := k) (by omega) (by omega)).mpr h9)
              refine g_iload_n hX 1 rfl dX8_borrow_41 rfl ?_
              refine g_iload hX 0 rfl dX8_borrow_42 ?_
              refine g_iload_n hX 3 rfl dX8_borrow_44 rfl ?_
              refine g_icmp_eq (tgt := 66) hX dX8_borrow_45 (by decide) (fun c_45 => ?_) (fun c_45 => ?_)
              · have c_45 := c_45
                refine g_iconst hX (0) dX8_borrow_66 rfl ?_
                refine g_ior hX dX8_borrow_67 ?_
                refine g_istore_n hX [(3, .int (q ||| 0)), (4, .int (nI k)), (0, .ref (ad 0)), (1, .int (nI i)), (2, .int (nI o))] rfl dX8_borrow_68 rfl (by decide) ?_
                refine g_iinc hX (nI (k + 1)) [(4, .int (nI (k + 1))), (3, .int (q ||| 0)), (0, .ref (ad 0)), (1, .int (nI i)), (2, .int (nI o))] (k := 1) rfl (g_inc k) rfl dX8_borrow_69 (by decide) ?_
                refine g_goto (tgt := 34) hX dX8_borrow_72 (by decide) ?_
                refine g_lv [0, 1, 2, 3, 4] rfl ?_
                exact ih_34 (k + 1) (q ||| 0) (by omega) (by omega) (by rw [hq, lenB, if_pos c_45])
              · have c_45 := c_45
                refine g_aload_n hX 2 rfl dX8_borrow_48 rfl ?_
                refine g_getRs (i := 0) hX 12 3 q_inX8 (m_lo (by decide)) rfl (by decide) rfl (by decide) rfl q_w1 rfl (j := 4) rfl dX8_borrow_49 ?_
                refine g_iload hX 0 rfl dX8_borrow_52 ?_
                refine h_aald24 (i := 4) hX k rfl (by show _ < (12 : Nat); omega) (by decide) (j := (20 + k)) (mR_v (by omega)) (m_lo (by decide)) rfl dX8_borrow_54 ?_
                refine g_getI (i := (20 + k)) hX 11 3 q_inX7 (m_v (by omega)) (mK_v (by omega)) (by decide) rfl (by decide) rfl q_w2 rfl dX8_borrow_55 ?_
                refine g_eqi (y := (M (20 + k) 3)) (up2_n (Or.inl (by omega))) ?_
                refine g_iload_n hX 3 rfl dX8_borrow_58 rfl ?_
                refine g_icmp_ne (tgt := 66) hX dX8_borrow_59 (by decide) (fun c_59 => ?_) (fun c_59 => ?_)
                · refine g_iconst hX (0) dX8_borrow_66 rfl ?_
                  refine g_ior hX dX8_borrow_67 ?_
                  refine g_istore_n hX [(3, .int (q ||| 0)), (4, .int (nI k)), (0, .ref (ad 0)), (1, .int (nI i)), (2, .int (nI o))] rfl dX8_borrow_68 rfl (by decide) ?_
                  refine g_iinc hX (nI (k + 1)) [(4, .int (nI (k + 1))), (3, .int (q ||| 0)), (0, .ref (ad 0)), (1, .int (nI i)), (2, .int (nI o))] (k := 1) rfl (g_inc k) rfl dX8_borrow_69 (by decide) ?_
                  refine g_goto (tgt := 34) hX dX8_borrow_72 (by decide) ?_
                  refine g_lv [0, 1, 2, 3, 4] rfl ?_
                  exact ih_34 (k + 1) (q ||| 0) (by omega) (by omega) (by rw [hq, lenB, if_neg c_45, if_neg c_59])
                · refine g_iconst hX (1) dX8_borrow_62 rfl ?_
                  refine g_goto (tgt := 67) hX dX8_borrow_63 (by decide) ?_
                  refine g_ior hX dX8_borrow_67 ?_
                  refine g_istore_n hX [(3, .int (q ||| 1)), (4, .int (nI k)), (0, .ref (ad 0)), (1, .int (nI i)), (2, .int (nI o))] rfl dX8_borrow_68 rfl (by decide) ?_
                  refine g_iinc hX (nI (k + 1)) [(4, .int (nI (k + 1))), (3, .int (q ||| 1)), (0, .ref (ad 0)), (1, .int (nI i)), (2, .int (nI o))] (k := 1) rfl (g_inc k) rfl dX8_borrow_69 (by decide) ?_
                  refine g_goto (tgt := 34) hX dX8_borrow_72 (by decide) ?_
                  refine g_lv [0, 1, 2, 3, 4] rfl ?_
                  exact ih_34 (k + 1) (q ||| 1) (by omega) (by omega) (by rw [hq, lenB, if_neg c_45, if_pos c_59])
        refine g_lv [0, 1, 2, 3, 4] rfl ?_
        exact lp_34 _ 0 0 (Nat.lt_succ_self _) (Nat.zero_le _) rfl
      · first | exact absurd c_24 (by decide) | exact absurd (by decide) c_24
abbrev rm_X8_isSound : Room := { frames := 0, cells := 0, slots := 0, locals := 0 }
theorem hd_X8_isSound : yX8_isSound.cls = RX8 ∧ yX8_isSound.cls ≠ "java/lang/invoke/MethodHandle" ∧ yX8_isSound.cls ≠ "java/lang/invoke/VarHandle" ∧ (parseMethodDescriptor yX8_isSound.desc).map (fun d => d.parameters.length) = some 0 := by decide +kernel
set_option maxRecDepth 100000 in
set_option maxHeartbeats 4000000 in
theorem k_X8_isSound {D : va_G} {dT : Nat → ClassId} {Z : ZT} {ad : Nat → Nat} (M : Nat → Nat → Int32) (S : SZ) (hS : WS S) (hw1 : M 1 2 = nI S.1) (hw2 : M 2 2 = nI S.2.1) (hw3 : M 3 2 = nI S.2.2.1) : ∀ l8, BI l8 yX8_isSound wsX8_isSound rm_X8_isSound D (tyl dT) Z ad (mL S) (pf dT mK mN M (mR S) ad) [.ref (ad 0)] 0 0 (fun r u => u = (ad, mL S, mf dT ad M S) ∧ 1 = r) := by
  intro l9
  refine bi_of (own := RX8) (cc := cX8_isSound) (maxL := 1) (some .boolean) [(0, .ref (ad 0))] (by decide) rfl rfl rfl (Nat.le_of_ble_eq_true rfl) ?_
  intro X hX hE hN hM
  have hS1 := hS.1
  have hS2 := hS.2.1
  have hS3 := hS.2.2.1
  refine g_iconst hX (1) dX8_isSound_0 rfl ?_
  refine b_zret hX rfl hE dX8_isSound_1 (by omega) (by omega) ?_
  exact ⟨rfl, rfl⟩
abbrev rm_X8_wipe : Room := { frames := 1, cells := 0, slots := 0, locals := 23 }
theorem hd_X8_wipe : yX8_wipe.cls = RX8 ∧ yX8_wipe.cls ≠ "java/lang/invoke/MethodHandle" ∧ yX8_wipe.cls ≠ "java/lang/invoke/VarHandle" ∧ (parseMethodDescriptor yX8_wipe.desc).map (fun d => d.parameters.length) = some 0 := by decide +kernel
set_option maxRecDepth 100000 in
set_option maxHeartbeats 4000000 in
theorem k_X8_wipe {D : va_G} {dT : Nat → ClassId} {Z : ZT} {ad : Nat → Nat} (M : Nat → Nat → Int32) (S : SZ) (hS : WS S) (hw1 : M 1 2 = nI S.1) (hw2 : M 2 2 = nI S.2.1) (hw3 : M 3 2 = nI S.2.2.1) (hz : ad 99999 = Z.1) : ∀ l8, BI l8 yX8_wipe wsX8_wipe rm_X8_wipe D (tyl dT) Z ad (mL S) (pf dT mK mN M (mR S) ad) [.ref (ad 0)] 0 0 (fun r u => u = (ad, mL (clrS2 S), mf dT ad (up2 (up2 M 2 0 (M 2 0 + 1)) 2 2 0) (clrS2 S)) ∧ nI S.2.1 = r) := by
  intro l9
  refine bi_of (own := RX8) (cc := cX8_wipe) (maxL := 2) (some .int) [(0, .ref (ad 0))] (by decide) rfl rfl rfl (Nat.le_of_ble_eq_true rfl) ?_
  intro X hX hE hN hM
  have q_w1 : Cond.fieldLink RX8 16 "PerforatumModel" "music" "Ljava/util/List;" ∈ wsX8_wipe := List.mem_of_getElem? (i := 1) rfl
  have q_inX8 : ∀ w ∈ wsX80, w ∈ wsX8_wipe := by decide +kernel
  have hS1 := hS.1
  have hS2 := hS.2.1
  have hS3 := hS.2.2.1
  refine g_aload_n hX 0 rfl dX8_wipe_0 rfl ?_
  refine g_getRs (i := 0) hX 12 1 q_inX8 (m_lo (by decide)) rfl (by decide) rfl (by decide) rfl q_w1 rfl (j := 2) rfl dX8_wipe_1 ?_
  refine b_callI_F hX hM (b := 2) [] (m_lo (by decide)) (pf_obj rfl (by decide)) rfl (k_Jx4a65c_size_8abf5 2 (m_lo (by decide)) rfl) gX8_wipe_Jx4a65c_size_8abf5_f54Jx4a65c (by decide +kernel) rfl rfl rfl hdF_size ⟨Nat.le_of_ble_eq_true rfl, Nat.le_of_ble_eq_true rfl⟩ ⟨Nat.le_of_ble_eq_true rfl, Nat.le_of_ble_eq_true rfl⟩ rfl (Nat.le_of_ble_eq_true rfl) dX8_wipe_4 (fun r9 ad9 L9 f9 hp9 => ?_)
  obtain ⟨he9, hr9⟩ := hp9
  cases he9
  subst hr9
  refine g_eqi (y := (nI S.2.1)) hw2 ?_
  refine g_istore_n hX [(1, .int (nI S.2.1)), (0, .ref (ad 0))] rfl dX8_wipe_9 rfl (by decide) ?_
  refine g_aload_n hX 1 rfl dX8_wipe_10 rfl ?_
  refine g_getRs (i := 0) hX 12 1 q_inX8 (m_lo (by decide)) rfl (by decide) rfl (by decide) rfl q_w1 rfl (j := 2) rfl dX8_wipe_11 ?_
  refine b_callV_F hX hM (b := 2) [] (m_lo (by decide)) (pf_obj rfl (by decide)) rfl (k_clr2 M S hS hw2 hz) gX8_wipe_Jx4a65c_clear_da8c8_f118Jx4a65c (by decide +kernel) rfl rfl rfl hdF_clear ⟨Nat.le_of_ble_eq_true rfl, Nat.le_of_ble_eq_true rfl⟩ ⟨Nat.le_of_ble_eq_true rfl, Nat.le_of_ble_eq_true rfl⟩ rfl (Nat.le_of_ble_eq_true rfl) dX8_wipe_14 (fun ad9 L9 f9 hp9 => ?_)
  cases hp9
  refine g_iload_n hX 0 rfl dX8_wipe_19 rfl ?_
  refine b_iret hX hE dX8_wipe_20 (by omega) (by omega) ?_
  exact ⟨rfl, rfl⟩
abbrev rm_X8_heardShare : Room := { frames := 1, cells := 0, slots := 0, locals := 22 }
theorem hd_X8_heardShare : yX8_heardShare.cls = RX8 ∧ yX8_heardShare.cls ≠ "java/lang/invoke/MethodHandle" ∧ yX8_heardShare.cls ≠ "java/lang/invoke/VarHandle" ∧ (parseMethodDescriptor yX8_heardShare.desc).map (fun d => d.parameters.length) = some 0 := by decide +kernel
set_option maxRecDepth 100000 in
set_option maxHeartbeats 4000000 in
theorem k_X8_heardShare {D : va_G} {dT : Nat → ClassId} {Z : ZT} {ad : Nat → Nat} (M : Nat → Nat → Int32) (S : SZ) (hS : WS S) (hw1 : M 1 2 = nI S.1) (hw2 : M 2 2 = nI S.2.1) (hw3 : M 3 2 = nI S.2.2.1) : ∀ l8, BF l8 yX8_heardShare wsX8_heardShare rm_X8_heardShare D (tyl dT) Z ad (mL S) (pf dT mK mN M (mR S) ad) [.ref (ad 0)] 0 0 (fun r u => u = (ad, mL S, mf dT ad (up2 M 0 15 (if M 0 11 ≤ 0 then 1 else 0)) S) ∧ (M 0 11 ≤ 0 ∨ FP.fdiv (FP.i2f (M 0 12)) (FP.i2f (M 0 11)) = r)) := by
  intro l9
  refine bf_of (own := RX8) (cc := cX8_heardShare) (maxL := 1) [(0, .ref (ad 0))] (by decide) rfl rfl rfl (Nat.le_of_ble_eq_true rfl) ?_
  intro X hX hE hN hM
  have q_w1 : Cond.fieldLink RX8 152 "PerforatumModel" "openings" "I" ∈ wsX8_heardShare := List.mem_of_getElem? (i := 1) rfl
  have q_inX8 : ∀ w ∈ wsX80, w ∈ wsX8_heardShare := by decide +kernel
  have q_w2 : Cond.fieldLink RX8 155 "PerforatumModel" "begun" "I" ∈ wsX8_heardShare := List.mem_of_getElem? (i := 2) rfl
  have hS1 := hS.1
  have hS2 := hS.2.1
  have hS3 := hS.2.2.1
  refine g_aload_n hX 0 rfl dX8_heardShare_0 rfl ?_
  refine g_aload_n hX 0 rfl dX8_heardShare_1 rfl ?_
  refine g_getI (i := 0) hX 12 11 q_inX8 (m_lo (by decide)) rfl (by decide) rfl (by decide) rfl q_w1 rfl dX8_heardShare_2 ?_
  refine g_if_le (tgt := 12) hX dX8_heardShare_5 (by decide) (fun c_5 => ?_) (fun c_5 => ?_)
  · refine g_iconst hX (0) dX8_heardShare_12 rfl ?_
    refine g_iconst hX (1) dX8_heardShare_13 rfl ?_
    refine b_callI_V hX hM (b := 0) [.int 0, .int 1] (m_lo (by decide)) (pf_obj rfl (by decide)) rfl (k_X8_no (m_lo (by decide)) rfl 0 1) gX8_heardShare_X8_no rfl rfl rfl hd_X8_no ⟨Nat.le_of_ble_eq_true rfl, Nat.le_of_ble_eq_true rfl⟩ ⟨Nat.le_of_ble_eq_true rfl, Nat.le_of_ble_eq_true rfl⟩ rfl (Nat.le_of_ble_eq_true rfl) dX8_heardShare_14 (fun r9 ad9 L9 f9 hp9 => ?_)
    obtain ⟨he9, hr9⟩ := hp9
    cases he9
    subst hr9
    rw [show (if (0 : Int32) = 0 then (1 : Int32) else 0) = 1 from by decide]
    refine g_eqi (y := 1) (by decide) ?_
    refine g_if_eq (tgt := 24) hX dX8_heardShare_17 (by decide) (fun c_17 => ?_) (fun c_17 => ?_)
    · first | exact absurd c_17 (by decide) | exact absurd (by decide) c_17
    · refine g_fconst0 hX dX8_heardShare_20 ?_
      refine g_goto (tgt := 35) hX dX8_heardShare_21 (by decide) ?_
      refine b_fret hX hE dX8_heardShare_35 (by omega) (by omega) ?_
      exact ⟨congrArg (fun z => (ad, mL S, mf dT ad z S)) (by simp [c_5]), Or.inl c_5⟩
  · refine g_iconst hX (1) dX8_heardShare_8 rfl ?_
    refine g_goto (tgt := 13) hX dX8_heardShare_9 (by decide) ?_
    refine g_iconst hX (1) dX8_heardShare_13 rfl ?_
    refine b_callI_V hX hM (b := 0) [.int 1, .int 1] (m_lo (by decide)) (pf_obj rfl (by decide)) rfl (k_X8_no (m_lo (by decide)) rfl 1 1) gX8_heardShare_X8_no rfl rfl rfl hd_X8_no ⟨Nat.le_of_ble_eq_true rfl, Nat.le_of_ble_eq_true rfl⟩ ⟨Nat.le_of_ble_eq_true rfl, Nat.le_of_ble_eq_true rfl⟩ rfl (Nat.le_of_ble_eq_true rfl) dX8_heardShare_14 (fun r9 ad9 L9 f9 hp9 => ?_)
    obtain ⟨he9, hr9⟩ := hp9
    cases he9
    subst hr9
    rw [show (if (1 : Int32) = 0 then (1 : Int32) else 0) = 0 from by decide]
    refine g_eqi (y := 0) (by decide) ?_
    refine g_if_eq (tgt := 24) hX dX8_heardShare_17 (by decide) (fun c_17 => ?_) (fun c_17 => ?_)
    · refine g_aload_n hX 0 rfl dX8_heardShare_24 rfl ?_
      refine g_getI (i := 0) hX 12 12 q_inX8 (m_lo (by decide)) rfl (by decide) rfl (by decide) rfl q_w2 rfl dX8_heardShare_25 ?_
      refine g_eqi (y := (M 0 12)) (up2_n (Or.inr (by decide))) ?_
      refine g_i2f hX dX8_heardShare_28 ?_
      refine g_aload_n hX 0 rfl dX8_heardShare_29 rfl ?_
      refine g_getI (i := 0) hX 12 11 q_inX8 (m_lo (by decide)) rfl (by decide) rfl (by decide) rfl q_w1 rfl dX8_heardShare_30 ?_
      refine g_eqi (y := (M 0 11)) (up2_n (Or.inr (by decide))) ?_
      refine g_i2f hX dX8_heardShare_33 ?_
      refine g_fdiv hX dX8_heardShare_34 (nn_fdiv (fun h => c_5 (by rw [h]; decide))) ?_
      refine b_fret hX hE dX8_heardShare_35 (by omega) (by omega) ?_
      exact ⟨congrArg (fun z => (ad, mL S, mf dT ad z S)) (by simp [c_5]), Or.inr rfl⟩
    · first | exact absurd c_17 (by decide) | exact absurd (by decide) c_17
