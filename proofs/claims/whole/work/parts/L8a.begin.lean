/-! from the law's entry to its loop -/
section LBG
variable {X : EN} {D : va_G} {dT : Nat → ClassId} {b L : Nat} {xs : Nat → Int32} {Z : ZT}
theorem P_pm {c m j d : va_W} {H : Heap} (h : va_P D vwCl (c ++ m ++ j ++ d) H) : va_P D vwCl (d ++ (c ++ (j ++ m))) H := va_P.app (P_r h) (P_sw2 (by rw [← List.append_assoc]; exact P_l h))
theorem D_pm {A : Nat → Prop} {c m j d : va_W} (h : va_D A (c ++ m ++ j ++ d)) : va_D A (d ++ (c ++ (j ++ m))) := by
  have h2 : va_D A ((d ++ c) ++ (m ++ j)) := by
    rw [List.append_assoc, ← List.append_assoc c]
    exact D_sw h
  have h3 := D_sw2 h2
  rw [List.append_assoc] at h3
  exact h3
theorem gw_pm4 {c m j d : va_W} {lv : List (Nat × Value)} {ce sl pc : Nat} {st : List Value} (hk : GW X D (d ++ (c ++ (j ++ m))) lv ce sl pc st) : GW X D (c ++ m ++ j ++ d) lv ce sl pc st := gw_pm (fun H h => P_pm h) (fun A h => D_pm h) hk
theorem LW_P {ad : Nat → Nat} {I M : Nat → Nat → Int32} {o o2 : Nat} {g : Nat → Int64} {g2 : Nat → UInt64} {ad8 : Nat → Nat} {S : SZ} : [(o2, eD dT g2)] ++ (pw ad cL (kf dT ad I) ++ ([(o, eJ dT g)] ++ pw ad8 (mL S) (mf dT ad8 M S))) = LW dT ad I o g o2 g2 ad8 M S := by simp [LW]
theorem l_start (hX : CX X D (tyL dT) cL_law RL wsL_law room_1 9) (hL : XLX X Z) (hs : XSX X b L xs) (hxw : SX X xcw) (hL2 : L ≤ 2560) (hend : ∀ (ws : va_W) (lv : List (Nat × Value)) (ce sl : Nat), ce ≤ 603072 → sl ≤ 7198825 → GW X D ws lv ce sl 2334 [.int 1]) : GW X D [] [(0, .ref b)] 0 0 0 [] := by
  have i0 := (gw_0 _ (List.mem_singleton.mpr rfl)).1
  have i1 := (gw_1 _ (List.mem_singleton.mpr rfl)).1
  have i2 := (gw_2 _ (List.mem_singleton.mpr rfl)).1
  have i3 := (gw_3 _ (List.mem_singleton.mpr rfl)).1
  have i4 := (gw_4 _ (List.mem_singleton.mpr rfl)).1
  have i5 := (gw_5 _ (List.mem_singleton.mpr rfl)).1
  have i6 := (gw_6 _ (List.mem_singleton.mpr rfl)).1
  have i7 := (gw_7 _ (List.mem_singleton.mpr rfl)).1
  have i8 := (gw_8 _ (List.mem_singleton.mpr rfl)).1
  have i9 := (gw_9 _ (List.mem_singleton.mpr rfl)).1
  have j1 := (gw_107 _ (List.mem_singleton.mpr rfl)).1
  have j2 := (gw_108 _ (List.mem_singleton.mpr rfl)).1
  refine l_new hX 10 (m := 10) (fun w h => (gt_wsX60 w h).1) tyX6_ok i0 i1 i2 rfl (fun j hj => by rcases (show j = 0 ∨ j = 1 ∨ j = 2 ∨ j = 3 ∨ j = 4 ∨ j = 5 ∨ j = 6 ∨ j = 7 ∨ j = 8 ∨ j = 9 by omega) with rfl | rfl | rfl | rfl | rfl | rfl | rfl | rfl | rfl | rfl <;> rfl) (by decide) (by decide) dL_law_0 (fun q1 => ?_)
  refine g_dup hX dL_law_3 rfl ?_
  refine gw_w (List.append_nil _).symm ?_
  refine l_initC hX hxw (w1 := []) (w2 := []) (by decide) (by decide) i2 i8 i9 (Nat.le_of_ble_eq_true rfl) dL_law_4 (fun a J ha hJ => ?_)
  obtain rfl := ha
  refine gw_w (ws2 := pw a cL (kf dT a J)) (by rw [List.append_nil, List.nil_append]) ?_
  refine g_astore_n hX [(1, .ref (a 0)), (0, .ref b)] rfl dL_law_7 rfl (Nat.le_of_ble_eq_true rfl) ?_
  refine l_new hX 12 (m := 18) (fun w h => (gt_wsX80 w h).1) tyX8_ok i3 i4 i5 rfl (fun j hj => by rcases (show j = 0 ∨ j = 1 ∨ j = 2 ∨ j = 3 ∨ j = 4 ∨ j = 5 ∨ j = 6 ∨ j = 7 ∨ j = 8 ∨ j = 9 ∨ j = 10 ∨ j = 11 ∨ j = 12 ∨ j = 13 ∨ j = 14 ∨ j = 15 ∨ j = 16 ∨ j = 17 by omega) with rfl | rfl | rfl | rfl | rfl | rfl | rfl | rfl | rfl | rfl | rfl | rfl | rfl | rfl | rfl | rfl | rfl | rfl <;> rfl) (by decide) (by decide) dL_law_8 (fun q2 => ?_)
  refine g_dup hX dL_law_11 rfl ?_
  refine gw_w (List.append_nil _).symm ?_
  refine l_initM hX hL (w2 := []) (by decide) (by decide) i5 j1 j2 (Nat.le_of_ble_eq_true rfl) dL_law_12 (fun a8 M h8 h9 hM => ?_)
  refine gw_w (List.append_nil _) ?_
  refine g_astore_n hX [(2, .ref q2), (1, .ref (a 0)), (0, .ref b)] rfl dL_law_15 rfl (Nat.le_of_ble_eq_true rfl) ?_
  refine g_iconst hX 1 dL_law_16 rfl ?_
  refine l_newJ hX (by decide) (by decide) i6 dL_law_17 (fun o => ?_)
  refine g_astore_n hX [(3, .ref o), (2, .ref q2), (1, .ref (a 0)), (0, .ref b)] rfl dL_law_19 rfl (Nat.le_of_ble_eq_true rfl) ?_
  refine g_iconst hX 1 dL_law_20 rfl ?_
  refine l_newD hX (by decide) (by decide) i7 dL_law_21 (fun o2 => ?_)
  refine g_astore hX [(4, .ref o2), (3, .ref o), (2, .ref q2), (1, .ref (a 0)), (0, .ref b)] rfl dL_law_23 (Nat.le_of_ble_eq_true rfl) ?_
  refine gw_pm4 ?_
  refine gw_w LW_P ?_
  refine g_iconst hX (nI 0) dL_law_25 (by decide) ?_
  refine g_istore hX (lvW b (a 0) q2 o o2 (nI 0)) rfl dL_law_26 (Nat.le_of_ble_eq_true rfl) ?_
  exact l_loop hX hL hs hL2 hend 512 0 _ _ (by decide) (by omega) (by decide) (by decide) J M S00z a8 _ _ (REL_0 hJ hM) h8 h9
end LBG
