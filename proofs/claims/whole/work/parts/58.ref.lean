abbrev rm_X8_plays (v w : Nat) : Room := { frames := 9, cells := v, slots := w, locals := 237 }
theorem hd_X8_plays : yX8_plays.cls = RX8 ∧ yX8_plays.cls ≠ "java/lang/invoke/MethodHandle" ∧ yX8_plays.cls ≠ "java/lang/invoke/VarHandle" ∧ (parseMethodDescriptor yX8_plays.desc).map (fun d => d.parameters.length) = some 0 := by decide +kernel
set_option maxRecDepth 100000 in
set_option maxHeartbeats 4000000 in
theorem k_X8_plays {D : va_G} {dT : Nat → ClassId} {Z : ZT} {ad : Nat → Nat} (M : Nat → Nat → Int32) (S : SZ) (hS : WS S) (hw1 : M 1 2 = nI S.1) (hw2 : M 2 2 = nI S.2.1) (hw3 : M 3 2 = nI S.2.2.1) (hz : ad 99999 = Z.1) (hix : IXP M S) (hlat : M 0 16 = 0 ∨ M 0 16 = 1) (j : Nat) (hj : j < S.1) (r : Nat) (hr : r < 200) (hp6 : M 0 6 = nI j) (hp7 : M 0 7 = nI r) (vv ww : Nat) (hvv : 1 + (PC (pyZ M S j r) - PC S) ≤ vv) (hww : 16 + (PS (pyZ M S j r) - PS S) ≤ ww) : ∀ l8, BV l8 yX8_plays wsX8_plays (rm_X8_plays vv ww) D (tyl dT) Z ad (mL S) (pf dT mK mN M (mR S) ad) [.ref (ad 0)] vv ww (fun u => ∃ ad2, AGm (mL S) ad ad2 ∧ u = (ad2, mL (pyZ M S j r), mf dT ad2 (pyM M S j r) (pyZ M S j r))) := by
  intro l9
  refine bv_of (own := RX8) (cc := cX8_plays) (maxL := 6) [(0, .ref (ad 0))] (by decide) rfl rfl rfl (Nat.le_of_ble_eq_true rfl) ?_
  intro X hX hE hN hM
  have q_w1 : Cond.arrayClass .boolean ∈ wsX8_plays := List.mem_of_getElem? (i := 1) rfl
  have q_w11 : Cond.fieldLink RX8 161 "PerforatumModel" "suction" "I" ∈ wsX8_plays := List.mem_of_getElem? (i := 11) rfl
  have q_inX8 : ∀ w ∈ wsX80, w ∈ wsX8_plays := by decide +kernel
  have q_w12 : Cond.fieldLink RX8 28 "PerforatumModel" "told" "[I" ∈ wsX8_plays := List.mem_of_getElem? (i := 12) rfl
  have q_w13 : Cond.methodLink RX8 191 Lib.Math.min.name ∈ wsX8_plays := List.mem_of_getElem? (i := 13) rfl
  have q_w14 : Cond.static Lib.Math.min.name ∈ wsX8_plays := List.mem_of_getElem? (i := 14) rfl
  have q_w15 : Cond.initialized "java/lang/Math" ∈ wsX8_plays := List.mem_of_getElem? (i := 15) rfl
  have q_w16 : Cond.code Lib.Math.min.name Lib.Math.min.code 2 (some .int) ∈ wsX8_plays := List.mem_of_getElem? (i := 16) rfl
  have q_w17 : Cond.methodLink RX8 147 Lib.Math.max.name ∈ wsX8_plays := List.mem_of_getElem? (i := 17) rfl
  have q_w18 : Cond.static Lib.Math.max.name ∈ wsX8_plays := List.mem_of_getElem? (i := 18) rfl
  have q_w19 : Cond.code Lib.Math.max.name Lib.Math.max.code 2 (some .int) ∈ wsX8_plays := List.mem_of_getElem? (i := 19) rfl
  have q_w20 : Cond.fieldLink RX8 32 "PerforatumModel" "before" "[Z" ∈ wsX8_plays := List.mem_of_getElem? (i := 20) rfl
  have q_w6 : Cond.fieldLink RX8 158 "PerforatumModel" "row" "I" ∈ wsX8_plays := List.mem_of_getElem? (i := 6) rfl
  have q_w7 : Cond.fieldLink RX8 24 "PerforatumModel" "valves" "[LPerforatumModel$Valve;" ∈ wsX8_plays := List.mem_of_getElem? (i := 7) rfl
  have q_w9 : Cond.fieldLink RX8 174 "PerforatumModel$Valve" "open" "Z" ∈ wsX8_plays := List.mem_of_getElem? (i := 9) rfl
  have q_inX7 : ∀ w ∈ wsX70, w ∈ wsX8_plays := by decide +kernel
  have q_w10 : Cond.fieldLink RX8 142 "PerforatumModel$Valve" "use" "I" ∈ wsX8_plays := List.mem_of_getElem? (i := 10) rfl
  have q_w8 : Cond.fieldLink RX8 48 "PerforatumModel$Valve" "from" "I" ∈ wsX8_plays := List.mem_of_getElem? (i := 8) rfl
  have q_w2 : Cond.fieldLink RX8 167 "PerforatumModel" "aside" "I" ∈ wsX8_plays := List.mem_of_getElem? (i := 2) rfl
  have q_w3 : Cond.fieldLink RX8 10 "PerforatumModel" "rolls" "Ljava/util/List;" ∈ wsX8_plays := List.mem_of_getElem? (i := 3) rfl
  have q_w4 : Cond.fieldLink RX8 36 "PerforatumModel" "played" "I" ∈ wsX8_plays := List.mem_of_getElem? (i := 4) rfl
  have q_w5 : Cond.classLink RX8 68 "[[Z" ∈ wsX8_plays := List.mem_of_getElem? (i := 5) rfl
  have hS1 := hS.1
  have hS2 := hS.2.1
  have hS3 := hS.2.2.1
  have hv1 : 1 ≤ vv := by omega
  have hw1_ : 16 ≤ ww := by omega
  refine g_bipush hX (16) dX8_plays_0 rfl ?_
  refine g_f (g := pf dT mK mN (upr M 7 (fun _ => 0)) (mR S) ad) (fun i hi => pf_I (upr_n (show i ≠ 7 from fun h => (f_lo (by decide) (by decide) hS) (h ▸ hi))).symm) ?_
  refine g_newZ hX 7 (f_lo (by decide) (by decide) hS) (mR_no hS (f_lo (by decide) (by decide) hS) (by omega)) 16 rfl rfl (fun k9 => congrFun upr_s k9) (x := 16) rfl (by decide) q_w1 (by show _ ≤ vv; omega) (by show _ ≤ ww; omega) dX8_plays_2 (fun qn1 => ?_)
  obtain ⟨a2, ha2⟩ : ∃ z9, z9 = va_up ad 7 qn1 := ⟨_, rfl⟩
  have ga2 : ∀ i, i ∈ (mL S) → a2 i = ad i := fun i hi => by rw [ha2]; exact va_up_ne _ _ (fun h => (f_lo (by decide) (by decide) hS) (h ▸ hi))
  rw [← ha2]
  refine g_lvs (lv2 := [(0, .ref (a2 0))]) (st2 := [.ref (a2 7)]) (by rw [ga2 0 (m_lo (by decide))]) rfl ?_
  have aga2 : AGm (mL S) ad a2 := by rw [ha2]; exact AGm_new AGm_rf (f_lo (by decide) (by decide) hS) (by omega)
  refine g_astore_n hX [(1, .ref (a2 7)), (0, .ref (a2 0))] rfl dX8_plays_4 rfl (by decide) ?_
  refine g_iconst hX (0) dX8_plays_5 rfl ?_
  refine g_istore_n hX [(2, .int 0), (1, .ref (a2 7)), (0, .ref (a2 0))] rfl dX8_plays_6 rfl (by decide) ?_
  have lp_7 : ∀ (n9 : Nat) (t : Nat), 16 - t < n9 → (t ≤ 16) → GG X D a2 ((mL S) ++ [7]) (pf dT mK mN (rdI M j r t) (mR S) a2) [(2, .int (nI t)), (1, .ref (a2 7)), (0, .ref (a2 0))] (0 + 1) (0 + 16) 7 [] := by
    intro n9
    induction n9 with
    | zero => intro t h9; exact absurd h9 (Nat.not_lt_zero _)
    | succ n9 ih9 =>
      intro t h9 ht
      have ih_7 := ih9
      refine g_iload_n hX 0 rfl dX8_plays_7 rfl ?_
      refine g_bipush hX (16) dX8_plays_8 rfl ?_
      refine g_icmp_ge (tgt := 73) hX dX8_plays_10 (by decide) (fun c_10 => ?_) (fun c_10 => ?_)
      · have c_10 : 16 ≤ t := (nI_leI (a := 16) (b := t) (by omega) (by omega)).mp c_10
        have ht16 : t = 16 := by omega
        subst ht16
        refine g_aload_n hX 2 rfl dX8_plays_73 rfl ?_
        refine g_aload_n hX 1 rfl dX8_plays_74 rfl ?_
        refine b_callV_V hX hM (b := 0) [.ref (a2 7)] (List.mem_append_left _ (m_lo (by decide))) (pf_obj rfl (by decide)) rfl (k_X8_codes (rdI M j r 16) S hS ((congrFun (rdI_n (by omega)) 2).trans hw1) ((congrFun (rdI_n (by omega)) 2).trans hw2) ((congrFun (rdI_n (by omega)) 2).trans hw3) (fun _ h => List.mem_append_left _ h) (fun _ _ => rfl) (List.mem_append_right _ (List.mem_singleton.mpr rfl)) (by rw [show (rdI M j r 16) 0 16 = M 0 16 from (congrFun (rdI_n (by omega)) 16)]; exact hlat)) gX8_plays_X8_codes rfl rfl rfl hd_X8_codes ⟨Nat.le_of_ble_eq_true rfl, Nat.le_of_ble_eq_true rfl⟩ ⟨by show _ ≤ vv; omega, by show _ ≤ ww; omega⟩ rfl (Nat.le_of_ble_eq_true rfl) dX8_plays_75 (fun ad9 L9 f9 hp9 => ?_)
        cases hp9
        have hPA := PI_cod (j := j) (r := r) (n := 16) (M := M) (S := S) ⟨hS, hw1, hw2, hw3, hix⟩
        obtain ⟨M00, hM00⟩ : ∃ z, z = codI (rdI M j r 16) := ⟨_, rfl⟩
        obtain ⟨S00, hS00⟩ : ∃ z, z = S := ⟨_, rfl⟩
        have hP00 : PI M00 S00 := by rw [hM00, hS00]; exact hPA
        have hv00 : 1 + (PC (plS M00 S00 12).2 - PC S00) ≤ vv := by rw [hM00, hS00]; exact hvv
        have hw00 : 16 + (PS (plS M00 S00 12).2 - PS S00) ≤ ww := by rw [hM00, hS00]; exact hww
        rw [← hM00]
        refine g_iconst hX (0) dX8_plays_78 rfl ?_
        refine g_istore_n hX [(2, .int 0), (1, .ref (a2 7)), (0, .ref (a2 0))] rfl dX8_plays_79 rfl (by decide) ?_
        refine g_iconst hX (0) dX8_plays_80 rfl ?_
        refine g_istore_n hX [(3, .int 0), (2, .int 0), (1, .ref (a2 7)), (0, .ref (a2 0))] rfl dX8_plays_81 rfl (by decide) ?_
        have lp_82 : ∀ (n9 : Nat) (v : Nat) (Q : Nat → Nat → Int32) (S : SZ) (a : Nat → Nat) (w : Int32), 12 - v < n9 → (v ≤ 12) → (PI Q S) → ((Q, S) = plS M00 S00 v) → (w = usV M00 S00 v) → (PC S00 ≤ PC S ∧ PS S00 ≤ PS S) → (AGm (mL S00) ad a) → (∀ i9 ∈ mL S00, i9 < 1000 ∨ 4000 ≤ i9 → i9 ∈ mL S) → GG X D a (mL S ++ [7]) (pf dT mK mN Q (mR S) a) [(3, .int (nI v)), (2, .int w), (1, .ref (a 7)), (0, .ref (a 0))] (0 + 1 + (PC S - PC S00)) (0 + 16 + (PS S - PS S00)) 82 [] := by
          intro n9
          induction n9 with
          | zero => intro v Q S a w h9; exact absurd h9 (Nat.not_lt_zero _)
          | succ n9 ih9 =>
            intro v Q S a w h9 hv hPI hPL hw hpc hag hLL
            have ih_82 := ih9
            obtain ⟨hS, hw1, hw2, hw3, hix⟩ := hPI
            have hS1 := hS.1
            have hS2 := hS.2.1
            have hS3 := hS.2.2.1
            have e1 : Q = (plS M00 S00 v).1 := congrArg Prod.fst hPL
            have e2 : S = (plS M00 S00 v).2 := congrArg Prod.snd hPL
            have hle := plS_le hP00 (v := v) (w := 12) hv (Nat.le_refl _)
            rw [← e2] at hle
            refine g_iload_n hX 0 rfl dX8_plays_82 rfl ?_
            refine g_bipush hX (12) dX8_plays_83 rfl ?_
            refine g_icmp_ge (tgt := 183) hX dX8_plays_85 (by decide) (fun c_85 => ?_) (fun c_85 => ?_)
            · have c_85 : 12 ≤ v := (nI_leI (a := 12) (b := v) (by omega) (by omega)).mp c_85
              have hv12 : v = 12 := by omega
              subst hv12
              rw [← e2] at hv00 hw00
              have hvv2 : 0 + 1 + (PC S - PC S00) ≤ vv := by omega
              have hww2 : 0 + 16 + (PS S - PS S00) ≤ ww := by omega
              refine g_aload_n hX 3 rfl dX8_plays_183 rfl ?_
              refine g_iconst hX (0) dX8_plays_184 rfl ?_
              refine g_sipush hX (1000) dX8_plays_185 rfl ?_
              refine g_aload_n hX 3 rfl dX8_plays_188 rfl ?_
              refine g_getI (i := 0) hX 12 8 q_inX8 (List.mem_append_left _ (m_lo (by decide))) rfl (by decide) rfl (by decide) rfl q_w11 rfl dX8_plays_189 ?_
              refine g_aload_n hX 3 rfl dX8_plays_192 rfl ?_
              refine g_getRs (i := 0) hX 12 4 q_inX8 (List.mem_append_left _ (m_lo (by decide))) rfl (by decide) rfl (by decide) rfl q_w12 rfl (j := 5) rfl dX8_plays_193 ?_
              refine g_iconst hX (2) dX8_plays_196 rfl ?_
              refine h_iald (i := 5) hX 2 rfl (by show _ < (4 : Nat); omega) (by decide) (List.mem_append_left _ (m_lo (by decide))) rfl dX8_plays_197 ?_
              refine g_iadd hX dX8_plays_198 ?_
              refine g_mmin hX q_w13 q_w14 q_w15 q_w16 (Nat.le_of_ble_eq_true rfl) (Nat.le_of_ble_eq_true rfl) (by show _ ≤ vv; omega) (by show _ ≤ ww; omega) dX8_plays_199 ?_
              refine g_aload_n hX 3 rfl dX8_plays_202 rfl ?_
              refine g_getRs (i := 0) hX 12 4 q_inX8 (List.mem_append_left _ (m_lo (by decide))) rfl (by decide) rfl (by decide) rfl q_w12 rfl (j := 5) rfl dX8_plays_203 ?_
              refine g_iconst hX (3) dX8_plays_206 rfl ?_
              refine h_iald (i := 5) hX 3 rfl (by show _ < (4 : Nat); omega) (by decide) (List.mem_append_left _ (m_lo (by decide))) rfl dX8_plays_207 ?_
              refine g_isub hX dX8_plays_208 ?_
              refine g_iload_n hX 1 rfl dX8_plays_209 rfl ?_
              refine g_isub hX dX8_plays_210 ?_
              refine g_mmax hX q_w17 q_w18 q_w15 q_w19 (Nat.le_of_ble_eq_true rfl) (Nat.le_of_ble_eq_true rfl) (by show _ ≤ vv; omega) (by show _ ≤ ww; omega) dX8_plays_211 ?_
              refine g_putI hX (i := 0) 12 8 q_inX8 (List.mem_append_left _ (m_lo (by decide))) rfl (by decide) rfl (by decide) rfl q_w11 rfl tyX8_ok nmX8 rfl (ty := .int) (by decide +kernel) rfl rfl dX8_plays_214 ?_
              refine g_aload_n hX 3 rfl dX8_plays_217 rfl ?_
              refine g_aload_n hX 2 rfl dX8_plays_218 rfl ?_
              refine g_putR hX (i := 0) 12 5 q_inX8 (List.mem_append_left _ (m_lo (by decide))) rfl (by decide) rfl (by decide) rfl q_w20 rfl tyX8_ok nmX8 rfl (ty := .array .boolean) (by decide +kernel) (x := (some 7)) rfl rfl rfl dX8_plays_219 ?_
              refine g_aload_n hX 3 rfl dX8_plays_222 rfl ?_
              refine g_dup hX dX8_plays_223 rfl ?_
              refine g_getI (i := 0) hX 12 7 q_inX8 (List.mem_append_left _ (m_lo (by decide))) rfl (by decide) rfl (by decide) rfl q_w6 rfl dX8_plays_224 ?_
              refine g_eqi (y := (Q 0 7)) (up2_n (Or.inr (by decide))) ?_
              refine g_iconst hX (1) dX8_plays_227 rfl ?_
              refine g_iadd hX dX8_plays_228 ?_
              refine g_putI hX (i := 0) 12 7 q_inX8 (List.mem_append_left _ (m_lo (by decide))) rfl (by decide) rfl (by decide) rfl q_w6 rfl tyX8_ok nmX8 rfl (ty := .int) (by decide +kernel) rfl rfl dX8_plays_229 ?_
              refine g_ren7 (T := S) hS ?_
              obtain ⟨a3, ha3⟩ : ∃ z9, z9 = va_up a 6 (a 7) := ⟨_, rfl⟩
              have aga3 : AGm (mL S00) ad a3 := by rw [ha3]; exact AGm_ren hag
              rw [← ha3]
              refine g_lv [0, 1, 3] rfl ?_
              refine g_lvs (lv2 := [(3, .int (nI 12)), (2, .int w), (0, .ref (a 0))]) (st2 := []) rfl rfl ?_
              refine g_lvs (lv2 := [(3, .int (nI 12)), (2, .int w), (0, .ref (a3 0))]) (st2 := []) (by rw [show a3 0 = a 0 from by rw [ha3]; exact va_up_ne _ _ (by omega)]) rfl ?_
              refine b_vret hX hE dX8_plays_232 (by omega) (by omega) ?_
              subst e1
              subst e2
              subst hw
              subst hM00
              subst hS00
              exact ⟨_, aga3, rfl⟩
            · have c_85 : ¬ 12 ≤ v := fun h9 => c_85 ((nI_leI (a := 12) (b := v) (by omega) (by omega)).mpr h9)
              refine g_iconst hX (0) dX8_plays_88 rfl ?_
              refine g_istore hX [(4, .int 0), (3, .int (nI v)), (2, .int w), (1, .ref (a 7)), (0, .ref (a 0))] rfl dX8_plays_89 (by decide) ?_
              refine g_iconst hX (0) dX8_plays_91 rfl ?_
              refine g_istore hX [(5, .int 0), (4, .int 0), (3, .int (nI v)), (2, .int w), (1, .ref (a 7)), (0, .ref (a 0))] rfl dX8_plays_92 (by decide) ?_
              have lp_94 : ∀ (n9 : Nat) (k : Nat) (q : Int32), 12 - k < n9 → (k ≤ 12) → (q = hoV Q v k) → GG X D a (mL S ++ [7]) (pf dT mK mN Q (mR S) a) [(5, .int (nI k)), (4, .int q), (3, .int (nI v)), (2, .int w), (1, .ref (a 7)), (0, .ref (a 0))] (0 + 1 + (PC S - PC S00)) (0 + 16 + (PS S - PS S00)) 94 [] := by
                intro n9
                induction n9 with
                | zero => intro k q h9; exact absurd h9 (Nat.not_lt_zero _)
                | succ n9 ih9 =>
                  intro k q h9 hk hq
                  have ih_94 := ih9
                  refine g_iload hX 0 rfl dX8_plays_94 ?_
                  refine g_bipush hX (12) dX8_plays_96 rfl ?_
                  refine g_icmp_ge (tgt := 138) hX dX8_plays_98 (by decide) (fun c_98 => ?_) (fun c_98 => ?_)
                  · have c_98 : 12 ≤ k := (nI_leI (a := 12) (b := k) (by omega) (by omega)).mp c_98
                    have hq12 : q = hoV Q v 12 := by rw [hq, show k = 12 by omega]
                    subst hq12
                    refine g_aload_n hX 5 rfl dX8_plays_138 rfl ?_
                    refine g_iload_n hX 2 rfl dX8_plays_139 rfl ?_
                    refine g_iload hX 1 rfl dX8_plays_140 ?_
                    refine g_aload_n hX 4 rfl dX8_plays_142 rfl ?_
                    refine g_bipush hX (12) dX8_plays_143 rfl ?_
                    refine h_zald (i := 7) hX 12 rfl (by show _ < (16 : Nat); omega) (by decide) (List.mem_append_right _ (List.mem_singleton.mpr rfl)) rfl dX8_plays_145 ?_
                    have e3 : ((mvM Q S v (hoV Q v 12) (Q 7 12)), (mvz Q S v (hoV Q v 12) (Q 7 12))) = plS M00 S00 (v + 1) := by rw [plS_s, ← e1, ← e2]
                    have e4 : (mvz Q S v (hoV Q v 12) (Q 7 12)) = (plS M00 S00 (v + 1)).2 := congrArg Prod.snd e3
                    have e5 : (mvM Q S v (hoV Q v 12) (Q 7 12)) = (plS M00 S00 (v + 1)).1 := congrArg Prod.fst e3
                    have hl2 := plS_le hP00 (v := v + 1) (w := 12) (by omega) (Nat.le_refl _)
                    rw [← e4] at hl2
                    have hl3 := PC_mvz (M := Q) (v := v) (h := hoV Q v 12) (p := Q 7 12) hS
                    refine b_callV_V hX hM (b := 0) [.int (nI v), .int (hoV Q v 12), .int (Q 7 12)] (List.mem_append_left _ (m_lo (by decide))) (pf_obj rfl (by decide)) rfl (k_X8_moves Q S hS hw1 hw2 hw3 (AGm_z hag hz) v (by omega) hix (hoV Q v 12) (Q 7 12)) gX8_plays_X8_moves rfl rfl rfl hd_X8_moves ⟨Nat.le_of_ble_eq_true rfl, Nat.le_of_ble_eq_true rfl⟩ ⟨by show _ ≤ vv; omega, by show _ ≤ ww; omega⟩ rfl (Nat.le_of_ble_eq_true rfl) dX8_plays_146 (fun a4 L9 f9 hp9 => ?_)
                    obtain ⟨x9, ga4, he9⟩ := hp9
                    cases he9
                    have aga4 : AGm (mL S00) ad a4 := fun i9 hi9 h6 h1 => (ga4 i9 (hi9.elim (fun w9 => Or.inl (List.mem_append_left _ (hLL i9 w9 h1))) Or.inr) h6 h1).trans (hag i9 hi9 h6 h1)
                    refine g_lvs (lv2 := [(5, .int (nI k)), (4, .int (hoV Q v 12)), (3, .int (nI v)), (2, .int w), (1, .ref (a4 7)), (0, .ref (a4 0))]) (st2 := []) (by rw [ga4 7 (Or.inl (List.mem_append_right _ (List.mem_singleton.mpr rfl))) (by omega) (Or.inl (by omega)), ga4 0 (Or.inl (List.mem_append_left _ (m_lo (by decide)))) (by omega) (Or.inl (by omega))]) rfl ?_
                    refine g_iload_n hX 3 rfl dX8_plays_149 rfl ?_
                    refine g_aload_n hX 5 rfl dX8_plays_150 rfl ?_
                    refine g_getRs (i := 0) hX 12 3 q_inX8 (List.mem_append_left _ (m_lo (by decide))) rfl (by decide) rfl (by decide) rfl q_w7 rfl (j := 4) rfl dX8_plays_151 ?_
                    refine g_iload_n hX 2 rfl dX8_plays_154 rfl ?_
                    refine h_aald24 (i := 4) hX v rfl (by show _ < (12 : Nat); omega) (by decide) (j := (20 + v)) (mR_v (by omega)) (List.mem_append_left _ (m_lo (by decide))) rfl dX8_plays_155 ?_
                    refine g_getI (i := (20 + v)) hX 11 9 q_inX7 (List.mem_append_left _ (m_v (by omega))) (mK_v (by omega)) (by decide) rfl (by decide) rfl q_w9 rfl dX8_plays_156 ?_
                    refine g_if_eq (tgt := 174) hX dX8_plays_159 (by decide) (fun c_159 => ?_) (fun c_159 => ?_)
                    · refine g_iconst hX (0) dX8_plays_174 rfl ?_
                      refine g_iadd hX dX8_plays_175 ?_
                      refine g_istore_n hX [(2, .int (w + 0)), (5, .int (nI k)), (4, .int (hoV Q v 12)), (3, .int (nI v)), (1, .ref (a4 7)), (0, .ref (a4 0))] rfl dX8_plays_176 rfl (by decide) ?_
                      refine g_iinc hX (nI (v + 1)) [(3, .int (nI (v + 1))), (2, .int (w + 0)), (5, .int (nI k)), (4, .int (hoV Q v 12)), (1, .ref (a4 7)), (0, .ref (a4 0))] (k := 3) rfl (g_inc v) rfl dX8_plays_177 (by decide) ?_
                      refine g_goto (tgt := 82) hX dX8_plays_180 (by decide) ?_
                      refine g_widen (k := 0 + 1 + (PC (mvz Q S v (hoV Q v 12) (Q 7 12)) - PC S00)) (n := 0 + 16 + (PS (mvz Q S v (hoV Q v 12) (Q 7 12)) - PS S00)) (by omega) (by omega) ?_
                      skip
                      refine g_lv [0, 1, 4, 5] rfl ?_
                      exact ih_82 (v + 1) (mvM Q S v (hoV Q v 12) (Q 7 12)) (mvz Q S v (hoV Q v 12) (Q 7 12)) a4 (w + 0) (by omega) (by omega) (PI_mv (by omega) ⟨hS, hw1, hw2, hw3, hix⟩) e3 (by rw [usV, ← hw, ← e5, if_pos c_159]) (by omega) (aga4) (fun i9 h9 h8 => mvz_mem hS (hLL i9 h9 h8) h8)
                    · refine g_aload_n hX 5 rfl dX8_plays_162 rfl ?_
                      refine g_getRs (i := 0) hX 12 3 q_inX8 (List.mem_append_left _ (m_lo (by decide))) rfl (by decide) rfl (by decide) rfl q_w7 rfl (j := 4) rfl dX8_plays_163 ?_
                      refine g_iload_n hX 2 rfl dX8_plays_166 rfl ?_
                      refine h_aald24 (i := 4) hX v rfl (by show _ < (12 : Nat); omega) (by decide) (j := (20 + v)) (mR_v (by omega)) (List.mem_append_left _ (m_lo (by decide))) rfl dX8_plays_167 ?_
                      refine g_getI (i := (20 + v)) hX 11 2 q_inX7 (List.mem_append_left _ (m_v (by omega))) (mK_v (by omega)) (by decide) rfl (by decide) rfl q_w10 rfl dX8_plays_168 ?_
                      refine g_goto (tgt := 175) hX dX8_plays_171 (by decide) ?_
                      refine g_iadd hX dX8_plays_175 ?_
                      refine g_istore_n hX [(2, .int (w + ((mvM Q S v (hoV Q v 12) (Q 7 12)) (20 + v) 2))), (5, .int (nI k)), (4, .int (hoV Q v 12)), (3, .int (nI v)), (1, .ref (a4 7)), (0, .ref (a4 0))] rfl dX8_plays_176 rfl (by decide) ?_
                      refine g_iinc hX (nI (v + 1)) [(3, .int (nI (v + 1))), (2, .int (w + ((mvM Q S v (hoV Q v 12) (Q 7 12)) (20 + v) 2))), (5, .int (nI k)), (4, .int (hoV Q v 12)), (1, .ref (a4 7)), (0, .ref (a4 0))] (k := 3) rfl (g_inc v) rfl dX8_plays_177 (by decide) ?_
                      refine g_goto (tgt := 82) hX dX8_plays_180 (by decide) ?_
                      refine g_widen (k := 0 + 1 + (PC (mvz Q S v (hoV Q v 12) (Q 7 12)) - PC S00)) (n := 0 + 16 + (PS (mvz Q S v (hoV Q v 12) (Q 7 12)) - PS S00)) (by omega) (by omega) ?_
                      skip
                      refine g_lv [0, 1, 4, 5] rfl ?_
                      exact ih_82 (v + 1) (mvM Q S v (hoV Q v 12) (Q 7 12)) (mvz Q S v (hoV Q v 12) (Q 7 12)) a4 (w + ((mvM Q S v (hoV Q v 12) (Q 7 12)) (20 + v) 2)) (by omega) (by omega) (PI_mv (by omega) ⟨hS, hw1, hw2, hw3, hix⟩) e3 (by rw [usV, ← hw, ← e5, if_neg c_159]) (by omega) (aga4) (fun i9 h9 h8 => mvz_mem hS (hLL i9 h9 h8) h8)
                  · have c_98 : ¬ 12 ≤ k := fun h9 => c_98 ((nI_leI (a := 12) (b := k) (by omega) (by omega)).mpr h9)
                    refine g_iload hX 1 rfl dX8_plays_101 ?_
                    refine g_aload_n hX 5 rfl dX8_plays_103 rfl ?_
                    refine g_getRs (i := 0) hX 12 3 q_inX8 (List.mem_append_left _ (m_lo (by decide))) rfl (by decide) rfl (by decide) rfl q_w7 rfl (j := 4) rfl dX8_plays_104 ?_
                    refine g_iload hX 0 rfl dX8_plays_107 ?_
                    refine h_aald24 (i := 4) hX k rfl (by show _ < (12 : Nat); omega) (by decide) (j := (20 + k)) (mR_v (by omega)) (List.mem_append_left _ (m_lo (by decide))) rfl dX8_plays_109 ?_
                    refine g_getI (i := (20 + k)) hX 11 3 q_inX7 (List.mem_append_left _ (m_v (by omega))) (mK_v (by omega)) (by decide) rfl (by decide) rfl q_w8 rfl dX8_plays_110 ?_
                    refine g_iload_n hX 2 rfl dX8_plays_113 rfl ?_
                    refine g_icmp_ne (tgt := 128) hX dX8_plays_114 (by decide) (fun c_114 => ?_) (fun c_114 => ?_)
                    · have c_114 := c_114
                      refine g_iconst hX (0) dX8_plays_128 rfl ?_
                      refine g_ior hX dX8_plays_129 ?_
                      refine g_istore hX [(4, .int (q ||| 0)), (5, .int (nI k)), (3, .int (nI v)), (2, .int w), (1, .ref (a 7)), (0, .ref (a 0))] rfl dX8_plays_130 (by decide) ?_
                      refine g_iinc hX (nI (k + 1)) [(5, .int (nI (k + 1))), (4, .int (q ||| 0)), (3, .int (nI v)), (2, .int w), (1, .ref (a 7)), (0, .ref (a 0))] (k := 1) rfl (g_inc k) rfl dX8_plays_132 (by decide) ?_
                      refine g_goto (tgt := 94) hX dX8_plays_135 (by decide) ?_
                      refine g_lv [0, 1, 2, 3, 4, 5] rfl ?_
                      exact ih_94 (k + 1) (q ||| 0) (by omega) (by omega) (by rw [hq, hoV, if_neg c_114])
                    · have c_114 := c_114
                      refine g_aload_n hX 4 rfl dX8_plays_117 rfl ?_
                      refine g_iload hX 0 rfl dX8_plays_118 ?_
                      refine h_zald (i := 7) hX k rfl (by show _ < (16 : Nat); omega) (by decide) (List.mem_append_right _ (List.mem_singleton.mpr rfl)) rfl dX8_plays_120 ?_
                      refine g_if_eq (tgt := 128) hX dX8_plays_121 (by decide) (fun c_121 => ?_) (fun c_121 => ?_)
                      · refine g_iconst hX (0) dX8_plays_128 rfl ?_
                        refine g_ior hX dX8_plays_129 ?_
                        refine g_istore hX [(4, .int (q ||| 0)), (5, .int (nI k)), (3, .int (nI v)), (2, .int w), (1, .ref (a 7)), (0, .ref (a 0))] rfl dX8_plays_130 (by decide) ?_
                        refine g_iinc hX (nI (k + 1)) [(5, .int (nI (k + 1))), (4, .int (q ||| 0)), (3, .int (nI v)), (2, .int w), (1, .ref (a 7)), (0, .ref (a 0))] (k := 1) rfl (g_inc k) rfl dX8_plays_132 (by decide) ?_
                        refine g_goto (tgt := 94) hX dX8_plays_135 (by decide) ?_
                        refine g_lv [0, 1, 2, 3, 4, 5] rfl ?_
                        exact ih_94 (k + 1) (q ||| 0) (by omega) (by omega) (by rw [hq, hoV, if_pos c_114, if_pos c_121])
                      · refine g_iconst hX (1) dX8_plays_124 rfl ?_
                        refine g_goto (tgt := 129) hX dX8_plays_125 (by decide) ?_
                        refine g_ior hX dX8_plays_129 ?_
                        refine g_istore hX [(4, .int (q ||| 1)), (5, .int (nI k)), (3, .int (nI v)), (2, .int w), (1, .ref (a 7)), (0, .ref (a 0))] rfl dX8_plays_130 (by decide) ?_
                        refine g_iinc hX (nI (k + 1)) [(5, .int (nI (k + 1))), (4, .int (q ||| 1)), (3, .int (nI v)), (2, .int w), (1, .ref (a 7)), (0, .ref (a 0))] (k := 1) rfl (g_inc k) rfl dX8_plays_132 (by decide) ?_
                        refine g_goto (tgt := 94) hX dX8_plays_135 (by decide) ?_
                        refine g_lv [0, 1, 2, 3, 4, 5] rfl ?_
                        exact ih_94 (k + 1) (q ||| 1) (by omega) (by omega) (by rw [hq, hoV, if_pos c_114, if_neg c_121])
              refine g_lv [0, 1, 2, 3, 4, 5] rfl ?_
              exact lp_94 _ 0 0 (Nat.lt_succ_self _) (Nat.zero_le _) rfl
        refine g_lv [0, 1, 2, 3] rfl ?_
        refine g_widen (k := 0 + 1 + (PC S - PC S00)) (n := 0 + 16 + (PS S - PS S00)) (by omega) (by omega) ?_
        exact lp_82 _ 0 M00 S a2 0 (Nat.lt_succ_self _) (Nat.zero_le _) (hS00 ▸ hP00) (by rw [hS00]; rfl) rfl (by rw [hS00]; exact ⟨Nat.le_refl _, Nat.le_refl _⟩) (by rw [hS00]; exact aga2) (fun i9 h9 _ => hS00 ▸ h9)
      · have c_10 : ¬ 16 ≤ t := fun h9 => c_10 ((nI_leI (a := 16) (b := t) (by omega) (by omega)).mpr h9)
        refine g_aload_n hX 1 rfl dX8_plays_13 rfl ?_
        refine g_iload_n hX 0 rfl dX8_plays_14 rfl ?_
        refine g_iload_n hX 0 rfl dX8_plays_15 rfl ?_
        refine g_aload_n hX 2 rfl dX8_plays_16 rfl ?_
        refine g_getI (i := 0) hX 12 10 q_inX8 (List.mem_append_left _ (m_lo (by decide))) rfl (by decide) rfl (by decide) rfl q_w2 rfl dX8_plays_17 ?_
        refine g_eqi (y := (M 0 10)) (congrFun (rdI_n (by omega)) 10) ?_
        refine g_iadd hX dX8_plays_20 ?_
        refine g_iconst hX (0) dX8_plays_21 rfl ?_
        refine g_bipush hX (15) dX8_plays_22 rfl ?_
        refine b_callI_S hX hM [.int ((nI t) + (M 0 10)), .int 0, .int 15] (k_X8_isIn ((nI t) + (M 0 10)) 0 15) gX8_plays_X8_isIn rfl rfl rfl hd_X8_isIn.2 ⟨Nat.le_of_ble_eq_true rfl, Nat.le_of_ble_eq_true rfl⟩ ⟨by show _ ≤ vv; omega, by show _ ≤ ww; omega⟩ rfl (Nat.le_of_ble_eq_true rfl) dX8_plays_24 (fun r9 ad9 L9 f9 hp9 => ?_)
        obtain ⟨he9, hr9⟩ := hp9
        cases he9
        subst hr9
        refine g_if_eq (tgt := 65) hX dX8_plays_27 (by decide) (fun c_27 => ?_) (fun c_27 => ?_)
        · refine g_iconst hX (0) dX8_plays_65 rfl ?_
          refine h_zast (i := 7) hX t rfl (by show _ < (16 : Nat); omega) (by decide) (by first | exact Or.inl rfl | exact Or.inr rfl) (List.mem_append_right _ (List.mem_singleton.mpr rfl)) rfl dX8_plays_66 ?_
          refine g_iinc hX (nI (t + 1)) [(2, .int (nI (t + 1))), (1, .ref (a2 7)), (0, .ref (a2 0))] (k := 0) rfl (g_inc t) rfl dX8_plays_67 (by decide) ?_
          refine g_goto (tgt := 7) hX dX8_plays_70 (by decide) ?_
          rw [rdI_s (show roV M j r t = 0 from by rw [roV, if_pos c_27])]
          skip
          refine g_lv [0, 1, 2] rfl ?_
          exact ih_7 (t + 1) (by omega) (by omega)
        · obtain ⟨k9, hk9, hk⟩ := isi_k (n := 15) c_27 (by decide) (by decide)
          refine g_aload_n hX 2 rfl dX8_plays_30 rfl ?_
          refine g_getRs (i := 0) hX 12 0 q_inX8 (List.mem_append_left _ (m_lo (by decide))) rfl (by decide) rfl (by decide) rfl q_w3 rfl (j := 1) rfl dX8_plays_31 ?_
          refine g_aload_n hX 2 rfl dX8_plays_34 rfl ?_
          refine g_getI (i := 0) hX 12 6 q_inX8 (List.mem_append_left _ (m_lo (by decide))) rfl (by decide) rfl (by decide) rfl q_w4 rfl dX8_plays_35 ?_
          refine g_eqi (y := (nI j)) ((congrFun (rdI_n (by omega)) 6).trans hp6) ?_
          refine b_callQ_F hX hM (b := 1) [.int (nI j)] (List.mem_append_left _ (m_lo (by decide))) (pf_obj rfl (by decide)) rfl (v_get 1 (S.1) 5000 j (LV_up (LV_1 hS (M := (rdI M j r t)) ((congrFun (rdI_n (by omega)) 2).trans hw1)) (fun i hi => List.mem_append_left _ hi) (fun _ _ => rfl) rfl) hj) gX8_plays_Jx4a65c_get_915e3_f81Jx4a65c (by decide +kernel) rfl rfl rfl hdF_get ⟨Nat.le_of_ble_eq_true rfl, Nat.le_of_ble_eq_true rfl⟩ ⟨by show _ ≤ vv; omega, by show _ ≤ ww; omega⟩ rfl (Nat.le_of_ble_eq_true rfl) dX8_plays_38 (fun r9 ad9 L9 f9 hp9 => ?_)
          obtain ⟨he9, hr9⟩ := hp9
          cases he9
          subst hr9
          refine b_cast26 (i := (5000 + j)) hX (List.mem_append_left _ (m_o hS hj)) (mK_o (by have := hS.1; omega)) q_w5 dX8_plays_43 ?_
          refine g_aload_n hX 2 rfl dX8_plays_46 rfl ?_
          refine g_getI (i := 0) hX 12 7 q_inX8 (List.mem_append_left _ (m_lo (by decide))) rfl (by decide) rfl (by decide) rfl q_w6 rfl dX8_plays_47 ?_
          refine g_eqi (y := (nI r)) ((congrFun (rdI_n (by omega)) 7).trans hp7) ?_
          refine h_aald26 (i := (5000 + j)) hX r rfl (by rw [mN_o (by have := hS.1; omega)]; omega) (by rw [mN_o (by have := hS.1; omega)]; decide) (j := (6000 + 200 * j + r)) (mR_o (by have := hS.1; omega) (by omega)) (List.mem_append_left _ (m_o hS hj)) (mK_o (by have := hS.1; omega)) dX8_plays_50 ?_
          refine g_iload_n hX 0 rfl dX8_plays_51 rfl ?_
          refine g_aload_n hX 2 rfl dX8_plays_52 rfl ?_
          refine g_getI (i := 0) hX 12 10 q_inX8 (List.mem_append_left _ (m_lo (by decide))) rfl (by decide) rfl (by decide) rfl q_w2 rfl dX8_plays_53 ?_
          refine g_eqi (y := (M 0 10)) (congrFun (rdI_n (by omega)) 10) ?_
          refine g_iadd hX dX8_plays_56 ?_
          refine g_eqi (y := nI k9) hk ?_
          refine h_zald (i := (6000 + 200 * j + r)) hX k9 rfl (by rw [mN_r (by have := hS.1; omega) (by omega)]; omega) (by rw [mN_r (by have := hS.1; omega) (by omega)]; decide) (List.mem_append_left _ (m_r hS hj (by omega))) (mK_r (by have := hS.1; omega) (by omega)) dX8_plays_57 ?_
          refine g_eqi (y := (M (6000 + 200 * j + r) k9)) (congrFun (rdI_n (by omega)) k9) ?_
          refine g_if_eq (tgt := 65) hX dX8_plays_58 (by decide) (fun c_58 => ?_) (fun c_58 => ?_)
          · refine g_iconst hX (0) dX8_plays_65 rfl ?_
            refine h_zast (i := 7) hX t rfl (by show _ < (16 : Nat); omega) (by decide) (by first | exact Or.inl rfl | exact Or.inr rfl) (List.mem_append_right _ (List.mem_singleton.mpr rfl)) rfl dX8_plays_66 ?_
            refine g_iinc hX (nI (t + 1)) [(2, .int (nI (t + 1))), (1, .ref (a2 7)), (0, .ref (a2 0))] (k := 0) rfl (g_inc t) rfl dX8_plays_67 (by decide) ?_
            refine g_goto (tgt := 7) hX dX8_plays_70 (by decide) ?_
            rw [rdI_s (show roV M j r t = 0 from by rw [roV, if_neg c_27, hk, nI_clamp (n := k9) (by omega), if_pos c_58])]
            skip
            refine g_lv [0, 1, 2] rfl ?_
            exact ih_7 (t + 1) (by omega) (by omega)
          · refine g_iconst hX (1) dX8_plays_61 rfl ?_
            refine g_goto (tgt := 66) hX dX8_plays_62 (by decide) ?_
            refine h_zast (i := 7) hX t rfl (by show _ < (16 : Nat); omega) (by decide) (by first | exact Or.inl rfl | exact Or.inr rfl) (List.mem_append_right _ (List.mem_singleton.mpr rfl)) rfl dX8_plays_66 ?_
            refine g_iinc hX (nI (t + 1)) [(2, .int (nI (t + 1))), (1, .ref (a2 7)), (0, .ref (a2 0))] (k := 0) rfl (g_inc t) rfl dX8_plays_67 (by decide) ?_
            refine g_goto (tgt := 7) hX dX8_plays_70 (by decide) ?_
            rw [rdI_s (show roV M j r t = 1 from by rw [roV, if_neg c_27, hk, nI_clamp (n := k9) (by omega), if_neg c_58])]
            skip
            refine g_lv [0, 1, 2] rfl ?_
            exact ih_7 (t + 1) (by omega) (by omega)
  rw [show (upr M 7 (fun _ => 0)) = (rdI M j r 0) from rdI_0]
  skip
  refine g_lv [0, 1, 2] rfl ?_
  exact lp_7 _ 0 (Nat.lt_succ_self _) (Nat.zero_le _)
