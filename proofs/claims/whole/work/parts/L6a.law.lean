/-! one turn of the law's loop: the rows that every case shares -/
abbrev lvW (b a0 m0 o o2 : Nat) (i : Int32) : List (Nat × Value) := [(5, .int i), (4, .ref o2), (3, .ref o), (2, .ref m0), (1, .ref a0), (0, .ref b)]
def NX (X : EN) (D : va_G) (dT : Nat → ClassId) (Z : ZT) (ad : Nat → Nat) (b m0 o o2 : Nat) (i : Int32) (pc ce sl : Nat) : Prop := ∀ (J Q : Nat → Nat → Int32) (T : SZ) (a8 : Nat → Nat) (g : Nat → Int64) (g2 : Nat → UInt64), REL J Q T → a8 0 = m0 → a8 99999 = Z.1 → GW X D (LW dT ad J o g o2 g2 a8 Q T) (lvW b (ad 0) m0 o o2 i) ce sl pc []
theorem rel_pl {I M : Nat → Nat → Int32} {S : SZ} (h : REL I M S) : (I 99 0 = -1 ∧ M 0 6 = -1) ∨ ∃ j, j < S.1 ∧ I 99 0 = nI j ∧ M 0 6 = nI j := by
  obtain ⟨r, _, _, q | q⟩ := h.2.2.2.2.2.2.2
  · exact Or.inl q.1
  · exact Or.inr q.1
theorem rel_bit {I M : Nat → Nat → Int32} {S : SZ} (h : REL I M S) : ∀ j i k, j < S.1 → i < 200 → k < 16 → M (6000 + 200 * j + i) k = 0 ∨ M (6000 + 200 * j + i) k = 1 := by
  intro j i k hj hi hk
  obtain ⟨x, _, _, _, q⟩ := h.2.1.2.2 j (Nat.lt_of_lt_of_le hj h.2.1.2.1) i hi
  rw [q hj k hk]
  exact nI_bt01 x k
theorem n0 {k : Nat} (h : k ≤ 9) : nI k = 0 → k = 0 := fun e => (nI_z (by omega)).mp e
def ch (x : Int32) : Int32 := (x.toUInt32 % 65536).toInt32
def bl (x : Int32) : Int32 := if x = 0 then 0 else 1
theorem bl_01 (x : Int32) : bl x = 0 ∨ bl x = 1 := by unfold bl; split <;> simp
theorem rel_cp {I M : Nat → Nat → Int32} {S : SZ} (h : REL I M S) : I 99 0 = -1 ∨ ∃ i, i < 4 ∧ I 99 0 = nI i := (rel_pl h).elim (fun q => Or.inl q.1) (fun ⟨j, a, q, _⟩ => Or.inr ⟨j, Nat.lt_of_lt_of_le a h.2.1.2.1, q⟩)
theorem rel_mp {I M : Nat → Nat → Int32} {S : SZ} (h : REL I M S) : M 0 6 < 0 ∨ ∃ j, j < S.1 ∧ M 0 6 = nI j := (rel_pl h).elim (fun q => Or.inl (by rw [q.2]; decide)) (fun ⟨j, a, _, q⟩ => Or.inr ⟨j, a, q⟩)
section LWR
variable {X : EN} {D : va_G} {dT : Nat → ClassId} {ad : Nat → Nat} {ws : va_W} {lv : List (Nat × Value)} {ce sl pc : Nat} {st : List Value} {b m0 o o2 L : Nat} {xs : Nat → Int32} {Z : ZT} {I M : Nat → Nat → Int32} {S : SZ} {g : Nat → Int64} {g2 : Nat → UInt64} {ad8 : Nat → Nat}
theorem LW_G : LW dT ad I o g o2 g2 ad8 M S = ((o2, eD dT g2) :: pw ad cL (kf dT ad I)) ++ (o, eJ dT g) :: pw ad8 (mL S) (mf dT ad8 M S) := by simp [LW]
theorem LW_H : LW dT ad I o g o2 g2 ad8 M S = [] ++ (o2, eD dT g2) :: (pw ad cL (kf dT ad I) ++ ((o, eJ dT g) :: pw ad8 (mL S) (mf dT ad8 M S))) := rfl
theorem l_arg (hX : CX X D (tyL dT) cL_law RL wsL_law room_1 9) (hs : XSX X b L xs) (j0 j5 : Nat) {i k : Nat} (hi : i + k < L) (hL2 : L ≤ 2560) (h0 : lv[j0]? = some (0, .ref b)) (h5 : lv[j5]? = some (5, .int (nI i))) {kk : Int} (hk : Int32.ofInt kk = nI k) (d0 : decode cL_law pc = .ok (.aload_n 0, 1)) (d1 : decode cL_law (pc + 1) = .ok (.iload 5, 2)) (d3 : decode cL_law (pc + 3) = .ok (.iconst kk, 1)) (d4 : decode cL_law (pc + 4) = .ok (.iadd, 1)) (d5 : decode cL_law (pc + 5) = .ok (.iaload, 1)) (hn : GW X D ws lv ce sl (pc + 6) (.int (xs (i + k)) :: st)) : GW X D ws lv ce sl pc st := by
  refine g_aload_n hX j0 h0 d0 rfl ?_
  refine g_iload hX j5 h5 d1 ?_
  refine g_iconst hX (nI k) d3 hk ?_
  refine g_iadd hX d4 ?_
  refine g_eqi (nI_add i k) ?_
  refine l_sld hX hs (g_vin hi (by omega)) d5 ?_
  rw [nI_clamp (by omega)]
  exact hn
theorem l_bool (hX : CX X D (tyL dT) cL_law RL wsL_law room_1 9) {x : Int32} (d0 : decode cL_law pc = .ok (.ifCond .eq 7, 3)) (d3 : decode cL_law (pc + 3) = .ok (.iconst 1, 1)) (d4 : decode cL_law (pc + 4) = .ok (.goto 4, 3)) (d7 : decode cL_law (pc + 7) = .ok (.iconst 0, 1)) (hn : GW X D ws lv ce sl (pc + 8) (.int (bl x) :: st)) : GW X D ws lv ce sl pc (.int x :: st) := by
  refine g_if_eq (tgt := pc + 7) hX d0 (by omega) (fun c => ?_) (fun c => ?_)
  · refine g_iconst hX 0 d7 rfl ?_
    unfold bl at hn
    rw [if_pos c] at hn
    exact hn
  · refine g_iconst hX 1 d3 rfl ?_
    refine g_goto (tgt := pc + 8) hX d4 (by omega) ?_
    unfold bl at hn
    rw [if_neg c] at hn
    exact hn
/-- did the two throw alike -/
theorem l_thrown (hX : CX X D (tyL dT) cL_law RL wsL_law room_1 9) (hL : XLX X Z) (h8 : ad8 0 = m0) {cd : Nat} (h15 : M 0 15 = nI cd) (j2 j6 : Nat) (h2 : lv[j2]? = some (2, .ref m0)) (h6 : lv[j6]? = some (6, .int (nI cd))) (hce : ce ≤ 603072) (hsl : sl ≤ 7198825) (d0 : decode cL_law pc = .ok (.aload_n 2, 1)) (d1 : decode cL_law (pc + 1) = .ok (.invokevirtual 142, 3)) (d4 : decode cL_law (pc + 4) = .ok (.iload 6, 2)) (d6 : decode cL_law (pc + 6) = .ok (.if_icmp .eq 5, 3)) (d11 : decode cL_law (pc + 11) = .ok (.iload 6, 2)) (hn : GW X D (LW dT ad I o g o2 g2 ad8 M S) lv ce sl (pc + 13) [.int (nI cd)]) : GW X D (LW dT ad I o g o2 g2 ad8 M S) lv ce sl pc [] := by
  refine g_aload_n hX j2 h2 d0 rfl ?_
  refine l_callMI hX hL h8 [] (k_X8_thrown (K := mK) (N := mN) (I := M) (Rr := mR S) (L := mL S) (m_lo (by decide)) rfl) gL_law_X8_thrown rfl rfl rfl hd_X8_thrown ⟨Nat.le_of_ble_eq_true rfl, Nat.le_of_ble_eq_true rfl⟩ ⟨hce, hsl⟩ rfl (Nat.le_of_ble_eq_true rfl) d1 (fun r u hu => ?_)
  obtain ⟨rfl, rfl⟩ := hu
  refine ⟨ad8, M, S, rfl, ?_⟩
  refine g_iload hX j6 h6 d4 ?_
  refine g_icmp_eq (tgt := pc + 11) hX d6 (by omega) (fun _ => ?_) (fun c => absurd h15 c)
  exact g_iload hX j6 h6 d11 hn
theorem l_tailI (hX : CX X D (tyL dT) cL_law RL wsL_law room_1 9) (hL : XLX X Z) {i : Nat} {cE sE : Nat} (hN : NX X D dT Z ad b m0 o o2 (nI i) 2327 cE sE) (hce : ce ≤ cE) (hsl : sl ≤ sE) (hcE : cE ≤ 603072) (hsE : sE ≤ 7198825) (h8 : ad8 0 = m0) (h9 : ad8 99999 = Z.1) {cd : Nat} {r : Int32} (hcd : nI cd = 0 → cd = 0) (h15 : M 0 15 = nI cd ∧ (cd = 0 → g 0 = cvI r) ∧ REL I M S) (d0 : decode cL_law pc = .ok (.istore 7, 2)) (d2 : decode cL_law (pc + 2) = .ok (.aload_n 2, 1)) (d3 : decode cL_law (pc + 3) = .ok (.invokevirtual 142, 3)) (d6 : decode cL_law (pc + 6) = .ok (.iload 6, 2)) (d8 : decode cL_law (pc + 8) = .ok (.if_icmp .eq 5, 3)) (d13 : decode cL_law (pc + 13) = .ok (.iload 6, 2)) (d15 : decode cL_law (pc + 15) = .ok (.ifCond .ne 15, 3)) (d18 : decode cL_law (pc + 18) = .ok (.aload_n 3, 1)) (d19 : decode cL_law (pc + 19) = .ok (.iconst 0, 1)) (d20 : decode cL_law (pc + 20) = .ok (.laload, 1)) (d21 : decode cL_law (pc + 21) = .ok (.iload 7, 2)) (d23 : decode cL_law (pc + 23) = .ok (.i2l, 1)) (d24 : decode cL_law (pc + 24) = .ok (.lcmp, 1)) (d25 : decode cL_law (pc + 25) = .ok (.ifCond .eq 5, 3)) {off : Int} (d30 : decode cL_law (pc + 30) = .ok (.goto off, 3)) (ht : ((pc + 30 : Nat) : Int) + off = ((2327 : Nat) : Int)) : GW X D (LW dT ad I o g o2 g2 ad8 M S) ((6, .int (nI cd)) :: lvW b (ad 0) m0 o o2 (nI i)) ce sl pc [.int r] := by
  have hend : GW X D (LW dT ad I o g o2 g2 ad8 M S) ((7, .int r) :: (6, .int (nI cd)) :: lvW b (ad 0) m0 o o2 (nI i)) ce sl (pc + 30) [] := by
    refine g_goto (tgt := 2327) hX d30 ht ?_
    refine g_lv [2, 3, 4, 5, 6, 7] rfl ?_
    exact g_widen hce hsl (hN I M S ad8 g g2 h15.2.2 h8 h9)
  refine g_istore hX ((7, .int r) :: (6, .int (nI cd)) :: lvW b (ad 0) m0 o o2 (nI i)) rfl d0 (Nat.le_of_ble_eq_true rfl) ?_
  refine l_thrown (lv := (7, .int r) :: (6, .int (nI cd)) :: lvW b (ad 0) m0 o o2 (nI i)) hX hL h8 h15.1 5 1 rfl rfl (Nat.le_trans hce hcE) (Nat.le_trans hsl hsE) d2 d3 d6 d8 d13 ?_
  refine g_if_ne (tgt := pc + 30) hX d15 (by omega) (fun _ => hend) (fun c => ?_)
  refine g_aload_n hX 4 rfl d18 rfl ?_
  refine g_iconst hX 0 d19 rfl ?_
  refine gw_w LW_G ?_
  refine w_lald hX d20 ?_
  refine gw_w LW_G.symm ?_
  refine g_iload hX 0 rfl d21 ?_
  refine g_i2l hX d23 ?_
  refine g_lcmp hX d24 ?_
  exact g_if_eq (tgt := pc + 30) hX d25 (by omega) (fun _ => hend) (fun e => absurd ((lg_cmp_eq _ _).mpr (h15.2.1 (hcd c))) e)
theorem l_tailB (hX : CX X D (tyL dT) cL_law RL wsL_law room_1 9) (hL : XLX X Z) {i : Nat} {cE sE : Nat} (hN : NX X D dT Z ad b m0 o o2 (nI i) 2327 cE sE) (hce : ce ≤ cE) (hsl : sl ≤ sE) (hcE : cE ≤ 603072) (hsE : sE ≤ 7198825) (h8 : ad8 0 = m0) (h9 : ad8 99999 = Z.1) {cd : Nat} {r : Int32} (hcd : nI cd = 0 → cd = 0) (h15 : M 0 15 = nI cd ∧ (cd = 0 → g 0 = cvB r) ∧ REL I M S) (d0 : decode cL_law pc = .ok (.istore 7, 2)) (d2 : decode cL_law (pc + 2) = .ok (.aload_n 2, 1)) (d3 : decode cL_law (pc + 3) = .ok (.invokevirtual 142, 3)) (d6 : decode cL_law (pc + 6) = .ok (.iload 6, 2)) (d8 : decode cL_law (pc + 8) = .ok (.if_icmp .eq 5, 3)) (d13 : decode cL_law (pc + 13) = .ok (.iload 6, 2)) (d15 : decode cL_law (pc + 15) = .ok (.ifCond .ne 22, 3)) (d18 : decode cL_law (pc + 18) = .ok (.aload_n 3, 1)) (d19 : decode cL_law (pc + 19) = .ok (.iconst 0, 1)) (d20 : decode cL_law (pc + 20) = .ok (.laload, 1)) (d21 : decode cL_law (pc + 21) = .ok (.iload 7, 2)) (d23 : decode cL_law (pc + 23) = .ok (.ifCond .eq 7, 3)) (d26 : decode cL_law (pc + 26) = .ok (.lconst 1, 1)) (d27 : decode cL_law (pc + 27) = .ok (.goto 4, 3)) (d30 : decode cL_law (pc + 30) = .ok (.lconst 0, 1)) (d31 : decode cL_law (pc + 31) = .ok (.lcmp, 1)) (d32 : decode cL_law (pc + 32) = .ok (.ifCond .eq 5, 3)) {off : Int} (d37 : decode cL_law (pc + 37) = .ok (.goto off, 3)) (ht : ((pc + 37 : Nat) : Int) + off = ((2327 : Nat) : Int)) : GW X D (LW dT ad I o g o2 g2 ad8 M S) ((6, .int (nI cd)) :: lvW b (ad 0) m0 o o2 (nI i)) ce sl pc [.int r] := by
  have hend : GW X D (LW dT ad I o g o2 g2 ad8 M S) ((7, .int r) :: (6, .int (nI cd)) :: lvW b (ad 0) m0 o o2 (nI i)) ce sl (pc + 37) [] := by
    refine g_goto (tgt := 2327) hX d37 ht ?_
    refine g_lv [2, 3, 4, 5, 6, 7] rfl ?_
    exact g_widen hce hsl (hN I M S ad8 g g2 h15.2.2 h8 h9)
  refine g_istore hX ((7, .int r) :: (6, .int (nI cd)) :: lvW b (ad 0) m0 o o2 (nI i)) rfl d0 (Nat.le_of_ble_eq_true rfl) ?_
  refine l_thrown (lv := (7, .int r) :: (6, .int (nI cd)) :: lvW b (ad 0) m0 o o2 (nI i)) hX hL h8 h15.1 5 1 rfl rfl (Nat.le_trans hce hcE) (Nat.le_trans hsl hsE) d2 d3 d6 d8 d13 ?_
  refine g_if_ne (tgt := pc + 37) hX d15 (by omega) (fun _ => hend) (fun c => ?_)
  refine g_aload_n hX 4 rfl d18 rfl ?_
  refine g_iconst hX 0 d19 rfl ?_
  refine gw_w LW_G ?_
  refine w_lald hX d20 ?_
  refine gw_w LW_G.symm ?_
  refine g_iload hX 0 rfl d21 ?_
  have he := h15.2.1 (hcd c)
  refine g_if_eq (tgt := pc + 30) hX d23 (by omega) (fun q => ?_) (fun q => ?_)
  · refine g_lconst hX 0 d30 rfl ?_
    refine g_lcmp hX d31 ?_
    exact g_if_eq (tgt := pc + 37) hX d32 (by omega) (fun _ => hend) (fun e => absurd ((lg_cmp_eq _ _).mpr (he.trans (if_pos q))) e)
  · refine g_lconst hX 1 d26 rfl ?_
    refine g_goto (tgt := pc + 31) hX d27 (by omega) ?_
    refine g_lcmp hX d31 ?_
    exact g_if_eq (tgt := pc + 37) hX d32 (by omega) (fun _ => hend) (fun e => absurd ((lg_cmp_eq _ _).mpr (he.trans (if_neg q))) e)
theorem l_tailL (hX : CX X D (tyL dT) cL_law RL wsL_law room_1 9) (hL : XLX X Z) {i : Nat} {cE sE : Nat} (hN : NX X D dT Z ad b m0 o o2 (nI i) 2327 cE sE) (hce : ce ≤ cE) (hsl : sl ≤ sE) (hcE : cE ≤ 603072) (hsE : sE ≤ 7198825) (h8 : ad8 0 = m0) (h9 : ad8 99999 = Z.1) {cd : Nat} {r : Int64} (hcd : nI cd = 0 → cd = 0) (h15 : M 0 15 = nI cd ∧ (cd = 0 → g 0 = r) ∧ REL I M S) (d0 : decode cL_law pc = .ok (.lstore 7, 2)) (d2 : decode cL_law (pc + 2) = .ok (.aload_n 2, 1)) (d3 : decode cL_law (pc + 3) = .ok (.invokevirtual 142, 3)) (d6 : decode cL_law (pc + 6) = .ok (.iload 6, 2)) (d8 : decode cL_law (pc + 8) = .ok (.if_icmp .eq 5, 3)) (d13 : decode cL_law (pc + 13) = .ok (.iload 6, 2)) (d15 : decode cL_law (pc + 15) = .ok (.ifCond .ne 14, 3)) (d18 : decode cL_law (pc + 18) = .ok (.aload_n 3, 1)) (d19 : decode cL_law (pc + 19) = .ok (.iconst 0, 1)) (d20 : decode cL_law (pc + 20) = .ok (.laload, 1)) (d21 : decode cL_law (pc + 21) = .ok (.lload 7, 2)) (d23 : decode cL_law (pc + 23) = .ok (.lcmp, 1)) (d24 : decode cL_law (pc + 24) = .ok (.ifCond .eq 5, 3)) {off : Int} (d29 : decode cL_law (pc + 29) = .ok (.goto off, 3)) (ht : ((pc + 29 : Nat) : Int) + off = ((2327 : Nat) : Int)) : GW X D (LW dT ad I o g o2 g2 ad8 M S) ((6, .int (nI cd)) :: lvW b (ad 0) m0 o o2 (nI i)) ce sl pc [.long r] := by
  have hend : GW X D (LW dT ad I o g o2 g2 ad8 M S) ((7, .long r) :: (6, .int (nI cd)) :: lvW b (ad 0) m0 o o2 (nI i)) ce sl (pc + 29) [] := by
    refine g_goto (tgt := 2327) hX d29 ht ?_
    refine g_lv [2, 3, 4, 5, 6, 7] rfl ?_
    exact g_widen hce hsl (hN I M S ad8 g g2 h15.2.2 h8 h9)
  refine g_lstore hX ((7, .long r) :: (6, .int (nI cd)) :: lvW b (ad 0) m0 o o2 (nI i)) rfl d0 (Nat.le_of_ble_eq_true rfl) ?_
  refine l_thrown (lv := (7, .long r) :: (6, .int (nI cd)) :: lvW b (ad 0) m0 o o2 (nI i)) hX hL h8 h15.1 5 1 rfl rfl (Nat.le_trans hce hcE) (Nat.le_trans hsl hsE) d2 d3 d6 d8 d13 ?_
  refine g_if_ne (tgt := pc + 29) hX d15 (by omega) (fun _ => hend) (fun c => ?_)
  refine g_aload_n hX 4 rfl d18 rfl ?_
  refine g_iconst hX 0 d19 rfl ?_
  refine gw_w LW_G ?_
  refine w_lald hX d20 ?_
  refine gw_w LW_G.symm ?_
  refine g_lload hX 0 rfl d21 ?_
  refine g_lcmp hX d23 ?_
  exact g_if_eq (tgt := pc + 29) hX d24 (by omega) (fun _ => hend) (fun e => absurd ((lg_cmp_eq _ _).mpr (h15.2.1 (hcd c))) e)
theorem l_tailF (hX : CX X D (tyL dT) cL_law RL wsL_law room_1 9) (hL : XLX X Z) {i : Nat} {cE sE : Nat} (hN : NX X D dT Z ad b m0 o o2 (nI i) 2327 cE sE) (hce : ce ≤ cE) (hsl : sl ≤ sE) (hcE : cE ≤ 603072) (hsE : sE ≤ 7198825) (h8 : ad8 0 = m0) (h9 : ad8 99999 = Z.1) {cd : Nat} {r : UInt32} (hcd : nI cd = 0 → cd = 0) (h15 : M 0 15 = nI cd ∧ (cd = 0 → g2 0 = FP.f2d r ∧ vf_n32 r) ∧ REL I M S) (d0 : decode cL_law pc = .ok (.fstore 7, 2)) (d2 : decode cL_law (pc + 2) = .ok (.aload_n 2, 1)) (d3 : decode cL_law (pc + 3) = .ok (.invokevirtual 142, 3)) (d6 : decode cL_law (pc + 6) = .ok (.iload 6, 2)) (d8 : decode cL_law (pc + 8) = .ok (.if_icmp .eq 5, 3)) (d13 : decode cL_law (pc + 13) = .ok (.iload 6, 2)) (d15 : decode cL_law (pc + 15) = .ok (.ifCond .ne 36, 3)) (d18 : decode cL_law (pc + 18) = .ok (.aload 4, 2)) (d20 : decode cL_law (pc + 20) = .ok (.iconst 0, 1)) (d21 : decode cL_law (pc + 21) = .ok (.daload, 1)) (d22 : decode cL_law (pc + 22) = .ok (.fload 7, 2)) (d24 : decode cL_law (pc + 24) = .ok (.f2d, 1)) (d25 : decode cL_law (pc + 25) = .ok (.dcmp .l, 1)) (d26 : decode cL_law (pc + 26) = .ok (.ifCond .eq 25, 3)) {off : Int} (d51 : decode cL_law (pc + 51) = .ok (.goto off, 3)) (ht : ((pc + 51 : Nat) : Int) + off = ((2327 : Nat) : Int)) : GW X D (LW dT ad I o g o2 g2 ad8 M S) ((6, .int (nI cd)) :: lvW b (ad 0) m0 o o2 (nI i)) ce sl pc [.float r] := by
  have hend : GW X D (LW dT ad I o g o2 g2 ad8 M S) ((7, .float r) :: (6, .int (nI cd)) :: lvW b (ad 0) m0 o o2 (nI i)) ce sl (pc + 51) [] := by
    refine g_goto (tgt := 2327) hX d51 ht ?_
    refine g_lv [2, 3, 4, 5, 6, 7] rfl ?_
    exact g_widen hce hsl (hN I M S ad8 g g2 h15.2.2 h8 h9)
  refine g_fstore hX ((7, .float r) :: (6, .int (nI cd)) :: lvW b (ad 0) m0 o o2 (nI i)) rfl d0 (Nat.le_of_ble_eq_true rfl) ?_
  refine l_thrown (lv := (7, .float r) :: (6, .int (nI cd)) :: lvW b (ad 0) m0 o o2 (nI i)) hX hL h8 h15.1 5 1 rfl rfl (Nat.le_trans hce hcE) (Nat.le_trans hsl hsE) d2 d3 d6 d8 d13 ?_
  refine g_if_ne (tgt := pc + 51) hX d15 (by omega) (fun _ => hend) (fun c => ?_)
  obtain ⟨he, hn⟩ := h15.2.1 (hcd c)
  have hn2 : vf_n64 (FP.f2d r) := Jvm.Free.Fl.f2d_out hn
  refine g_aload hX 3 rfl d18 ?_
  refine g_iconst hX 0 d20 rfl ?_
  refine gw_w LW_H ?_
  refine w_dald hX d21 ?_
  refine gw_w LW_H.symm ?_
  refine g_fload hX 0 rfl d22 ?_
  refine g_f2d hX d24 hn2 ?_
  refine g_dcmp hX d25 ?_
  exact g_if_eq (tgt := pc + 51) hX d26 (by omega) (fun _ => hend) (fun e => absurd (by rw [he]; exact Jvm.RoadKit.dcmpV_eq rfl hn2 .l) e)
theorem l_tailZ (hX : CX X D (tyL dT) cL_law RL wsL_law room_1 9) (hL : XLX X Z) {i : Nat} {cE sE : Nat} (hN : NX X D dT Z ad b m0 o o2 (nI i) 2327 cE sE) (hce : ce ≤ cE) (hsl : sl ≤ sE) (hcE : cE ≤ 603072) (hsE : sE ≤ 7198825) (h8 : ad8 0 = m0) (h9 : ad8 99999 = Z.1) {cd : Nat} {r : UInt64} (hcd : nI cd = 0 → cd = 0) (h15 : M 0 15 = nI cd ∧ (cd = 0 → g2 0 = r ∧ vf_n64 r) ∧ REL I M S) (d0 : decode cL_law pc = .ok (.dstore 7, 2)) (d2 : decode cL_law (pc + 2) = .ok (.aload_n 2, 1)) (d3 : decode cL_law (pc + 3) = .ok (.invokevirtual 142, 3)) (d6 : decode cL_law (pc + 6) = .ok (.iload 6, 2)) (d8 : decode cL_law (pc + 8) = .ok (.if_icmp .eq 5, 3)) (d13 : decode cL_law (pc + 13) = .ok (.iload 6, 2)) (d15 : decode cL_law (pc + 15) = .ok (.ifCond .ne 35, 3)) (d18 : decode cL_law (pc + 18) = .ok (.aload 4, 2)) (d20 : decode cL_law (pc + 20) = .ok (.iconst 0, 1)) (d21 : decode cL_law (pc + 21) = .ok (.daload, 1)) (d22 : decode cL_law (pc + 22) = .ok (.dload 7, 2)) (d24 : decode cL_law (pc + 24) = .ok (.dcmp .l, 1)) (d25 : decode cL_law (pc + 25) = .ok (.ifCond .eq 25, 3)) {off : Int} (d50 : decode cL_law (pc + 50) = .ok (.goto off, 3)) (ht : ((pc + 50 : Nat) : Int) + off = ((2327 : Nat) : Int)) : GW X D (LW dT ad I o g o2 g2 ad8 M S) ((6, .int (nI cd)) :: lvW b (ad 0) m0 o o2 (nI i)) ce sl pc [.double r] := by
  have hend : GW X D (LW dT ad I o g o2 g2 ad8 M S) ((7, .double r) :: (6, .int (nI cd)) :: lvW b (ad 0) m0 o o2 (nI i)) ce sl (pc + 50) [] := by
    refine g_goto (tgt := 2327) hX d50 ht ?_
    refine g_lv [2, 3, 4, 5, 6, 7] rfl ?_
    exact g_widen hce hsl (hN I M S ad8 g g2 h15.2.2 h8 h9)
  refine g_dstore hX ((7, .double r) :: (6, .int (nI cd)) :: lvW b (ad 0) m0 o o2 (nI i)) rfl d0 (Nat.le_of_ble_eq_true rfl) ?_
  refine l_thrown (lv := (7, .double r) :: (6, .int (nI cd)) :: lvW b (ad 0) m0 o o2 (nI i)) hX hL h8 h15.1 5 1 rfl rfl (Nat.le_trans hce hcE) (Nat.le_trans hsl hsE) d2 d3 d6 d8 d13 ?_
  refine g_if_ne (tgt := pc + 50) hX d15 (by omega) (fun _ => hend) (fun c => ?_)
  obtain ⟨he, hn⟩ := h15.2.1 (hcd c)
  refine g_aload hX 3 rfl d18 ?_
  refine g_iconst hX 0 d20 rfl ?_
  refine gw_w LW_H ?_
  refine w_dald hX d21 ?_
  refine gw_w LW_H.symm ?_
  refine g_dload hX 0 rfl d22 ?_
  refine g_dcmp hX d24 ?_
  exact g_if_eq (tgt := pc + 50) hX d25 (by omega) (fun _ => hend) (fun e => absurd (by rw [he]; exact Jvm.RoadKit.dcmpV_eq rfl hn .l) e)
end LWR
