def fix9 (bs : List Int32) (c : Int32) : Nat → Nat → Int32
  | 0, _ => -1
  | f + 1, k => if bs.getD k 0 = c then nI k else fix9 bs c f (k + 1)
theorem zl31 {i : Nat} (h : i < 3) : zLen.getD i 0 < 2 ^ 31 := by
  rcases (show i = 0 ∨ i = 1 ∨ i = 2 by omega) with rfl | rfl | rfl <;> decide
theorem zl0 {i : Nat} (h : i < 3) : 0 < zLen.getD i 0 := by
  rcases (show i = 0 ∨ i = 1 ∨ i = 2 by omega) with rfl | rfl | rfl <;> decide
theorem mn_self (x : Int32) : mn2 x x = x := by
  unfold mn2
  by_cases h : x < x
  · rw [if_pos h]
  · rw [if_neg h]
theorem zl_sh (x : Int32) : x >>> ((0 : Int32) &&& 31) = x := by
  rw [show (0 : Int32) &&& 31 = 0 by decide]
  exact Int32.shiftRight_zero
def clR (R : Nat → Nat → Option Nat) (e n : Nat) : Nat → Nat → Option Nat := fun a => if a = e then fun k => if k < n then none else R e k else R a
theorem clR_0 {R : Nat → Nat → Option Nat} {e : Nat} : clR R e 0 = R := by
  funext a k
  unfold clR
  by_cases h : a = e
  · subst h; rw [if_pos rfl, if_neg (Nat.not_lt_zero k)]
  · rw [if_neg h]
theorem clR_up {R : Nat → Nat → Option Nat} {e n : Nat} : up2 (clR R e n) e n none = clR R e (n + 1) := by
  funext a k
  unfold clR up2
  by_cases h : a = e
  · subst h
    simp only [if_true]
    by_cases h2 : k = n
    · subst h2; rw [if_pos rfl, if_pos (Nat.lt_succ_self k)]
    · rw [if_neg h2]
      by_cases h3 : k < n
      · rw [if_pos h3, if_pos (by omega)]
      · rw [if_neg h3, if_neg (by omega)]
  · simp only [if_neg h]
theorem gr_1 {n : Nat} (h : n ≤ 100000) : nI (n + 1) - nI n = 1 := by
  have k := pk_sub (a := n + 1) (b := n) (by omega)
  rw [Nat.add_sub_cancel_left] at k
  exact k
theorem gr_h {n : Nat} (h : n ≤ 100000) : nI n >>> ((1 : Int32) &&& 31) = nI (n / 2) := by
  have k := pk_shrN (n := n) (by omega) ((1 : Int32) &&& 31) 1 (by decide)
  rw [Nat.pow_one] at k
  exact k
theorem nfw59 : (List.map (fun v : Value => v.category) []).sum + (nativeFrameWords "java/lang/System" "arraycopy" 5 + 11) ≤ 59 := by decide +kernel
theorem mn_le {a b : Nat} (h : a ≤ b) (hb : b < 100000) : mn2 (nI a) (nI b) = nI a := by
  unfold mn2
  by_cases q : nI b < nI a
  · exact absurd ((nI_ltI (by omega) (by omega)).mp q) (by omega)
  · rw [if_neg q]
theorem nl_max {k : Nat} (h : k ≤ 200000) : ¬ (2147483639 : Int32) < nI k := by
  intro q
  have := (nI_ltI (a := 2147483639) (b := k) (by decide) (by omega)).mp q
  omega
theorem mx_half {n : Nat} (h2 : 2 ≤ n) (h4 : n ≤ 100000) : mx2 1 (nI (n / 2)) = nI (n / 2) := by
  unfold mx2
  by_cases h : (1 : Int32) < nI (n / 2)
  · rw [if_pos h]
  · rw [if_neg h]
    have h1 : ¬ 1 < n / 2 := fun q => h (nI_lt q (by omega))
    have : n / 2 = 1 := by omega
    rw [this]; rfl
abbrev rm_J3_checkIndex_8e157 : Room := { frames := 0, cells := 0, slots := 0, locals := 0 }
theorem hd_J3_checkIndex_8e157 : yJ3_checkIndex_8e157.cls = RJ3 ∧ yJ3_checkIndex_8e157.cls ≠ "java/lang/invoke/MethodHandle" ∧ yJ3_checkIndex_8e157.cls ≠ "java/lang/invoke/VarHandle" ∧ (parseMethodDescriptor yJ3_checkIndex_8e157.desc).map (fun d => d.parameters.length) = some 3 := by decide +kernel
set_option maxRecDepth 100000 in
set_option maxHeartbeats 4000000 in
theorem k_J3_checkIndex_8e157 {D : va_G} {dT : Nat → ClassId} {Z : ZT} {K N : Nat → Nat} {I : Nat → Nat → Int32} {Rr : Nat → Nat → Option Nat} {ad : Nat → Nat} {L : List Nat} (i n : Nat) (hin : i < n) (hn31 : n < 2 ^ 31) : ∀ l8, BI l8 yJ3_checkIndex_8e157 wsJ3_checkIndex_8e157 rm_J3_checkIndex_8e157 D (tyl dT) Z ad L (pf dT K N I Rr ad) [.int (nI i), .int (nI n), .null] 0 0 (fun r u => u = (ad, L, pf dT K N I Rr ad) ∧ nI i = r) := by
  intro l9
  refine bi_of (own := RJ3) (cc := cJ3_checkIndex_8e157) (maxL := 3) (some .int) [(0, .int (nI i)), (1, .int (nI n)), (2, .null)] (by decide) rfl rfl rfl (Nat.le_of_ble_eq_true rfl) ?_
  intro X hX hE hN hM
  refine g_iload_n hX 0 rfl dJ3_checkIndex_8e157_0 rfl ?_
  refine g_if_lt (tgt := 9) hX dJ3_checkIndex_8e157_1 (by decide) (fun c_1 => ?_) (fun c_1 => ?_)
  · exact absurd c_1 (nI_pos (by omega))
  · refine g_iload_n hX 0 rfl dJ3_checkIndex_8e157_4 rfl ?_
    refine g_iload_n hX 1 rfl dJ3_checkIndex_8e157_5 rfl ?_
    refine g_icmp_lt (tgt := 16) hX dJ3_checkIndex_8e157_6 (by decide) (fun c_6 => ?_) (fun c_6 => ?_)
    · have c_6 : i < n := (nI_ltI (a := i) (b := n) (by omega) (by omega)).mp c_6
      refine g_iload_n hX 0 rfl dJ3_checkIndex_8e157_16 rfl ?_
      refine b_iret hX hE dJ3_checkIndex_8e157_17 (by omega) (by omega) ?_
      exact ⟨rfl, rfl⟩
    · exact absurd (nI_lt hin hn31) c_6
abbrev rm_J15_checkIndex_7cf53 : Room := { frames := 1, cells := 0, slots := 0, locals := 22 }
theorem hd_J15_checkIndex_7cf53 : yJ15_checkIndex_7cf53.cls = RJ15 ∧ yJ15_checkIndex_7cf53.cls ≠ "java/lang/invoke/MethodHandle" ∧ yJ15_checkIndex_7cf53.cls ≠ "java/lang/invoke/VarHandle" ∧ (parseMethodDescriptor yJ15_checkIndex_7cf53.desc).map (fun d => d.parameters.length) = some 2 := by decide +kernel
set_option maxRecDepth 100000 in
set_option maxHeartbeats 4000000 in
theorem k_J15_checkIndex_7cf53 {D : va_G} {dT : Nat → ClassId} {Z : ZT} {K N : Nat → Nat} {I : Nat → Nat → Int32} {Rr : Nat → Nat → Option Nat} {ad : Nat → Nat} {L : List Nat} (i n : Nat) (hin : i < n) (hn31 : n < 2 ^ 31) : ∀ l8, BI l8 yJ15_checkIndex_7cf53 wsJ15_checkIndex_7cf53 rm_J15_checkIndex_7cf53 D (tyl dT) Z ad L (pf dT K N I Rr ad) [.int (nI i), .int (nI n)] 0 0 (fun r u => u = (ad, L, pf dT K N I Rr ad) ∧ nI i = r) := by
  intro l9
  refine bi_of (own := RJ15) (cc := cJ15_checkIndex_7cf53) (maxL := 2) (some .int) [(0, .int (nI i)), (1, .int (nI n))] (by decide) rfl rfl rfl (Nat.le_of_ble_eq_true rfl) ?_
  intro X hX hE hN hM
  refine g_iload_n hX 0 rfl dJ15_checkIndex_7cf53_0 rfl ?_
  refine g_iload_n hX 1 rfl dJ15_checkIndex_7cf53_1 rfl ?_
  refine g_null hX dJ15_checkIndex_7cf53_2 ?_
  refine b_callI_S hX hM [.int (nI i), .int (nI n), .null] (k_J3_checkIndex_8e157 i n hin hn31) gJ15_checkIndex_7cf53_J3_checkIndex_8e157 rfl rfl rfl hd_J3_checkIndex_8e157.2 ⟨Nat.le_of_ble_eq_true rfl, Nat.le_of_ble_eq_true rfl⟩ ⟨Nat.le_of_ble_eq_true rfl, Nat.le_of_ble_eq_true rfl⟩ rfl (Nat.le_of_ble_eq_true rfl) dJ15_checkIndex_7cf53_3 (fun r9 ad9 L9 f9 hp9 => ?_)
  obtain ⟨he9, hr9⟩ := hp9
  cases he9
  subst hr9
  refine b_iret hX hE dJ15_checkIndex_7cf53_6 (by omega) (by omega) ?_
  exact ⟨rfl, rfl⟩
abbrev rm_Jx4a65c_size_8abf5 : Room := { frames := 0, cells := 0, slots := 0, locals := 0 }
theorem hd_Jx4a65c_size_8abf5 : yJx4a65c_size_8abf5.cls = RJx4a65c ∧ yJx4a65c_size_8abf5.cls ≠ "java/lang/invoke/MethodHandle" ∧ yJx4a65c_size_8abf5.cls ≠ "java/lang/invoke/VarHandle" ∧ (parseMethodDescriptor yJx4a65c_size_8abf5.desc).map (fun d => d.parameters.length) = some 0 := by decide +kernel
set_option maxRecDepth 100000 in
set_option maxHeartbeats 4000000 in
theorem k_Jx4a65c_size_8abf5 {D : va_G} {dT : Nat → ClassId} {Z : ZT} {K N : Nat → Nat} {I : Nat → Nat → Int32} {Rr : Nat → Nat → Option Nat} {ad : Nat → Nat} {L : List Nat} (l : Nat) (hl : l ∈ L) (hlk : K l = 3) : ∀ l8, BI l8 yJx4a65c_size_8abf5 wsJx4a65c_size_8abf5 rm_Jx4a65c_size_8abf5 D (tyl dT) Z ad L (pf dT K N I Rr ad) [.ref (ad l)] 0 0 (fun r u => u = (ad, L, pf dT K N I Rr ad) ∧ I l 2 = r) := by
  intro l9
  refine bi_of (own := RJx4a65c) (cc := cJx4a65c_size_8abf5) (maxL := 1) (some .int) [(0, .ref (ad l))] (by decide) rfl rfl rfl (Nat.le_of_ble_eq_true rfl) ?_
  intro X hX hE hN hM
  have q_w1 : Cond.fieldLink RJx4a65c 48 "java/util/ArrayList" "size" "I" ∈ wsJx4a65c_size_8abf5 := List.mem_of_getElem? (i := 1) rfl
  have q_inJx4a65c : ∀ w ∈ wsJx4a65c0, w ∈ wsJx4a65c_size_8abf5 := by decide +kernel
  refine g_aload_n hX 0 rfl dJx4a65c_size_8abf5_0 rfl ?_
  refine g_getI (i := l) hX 3 2 q_inJx4a65c hl hlk (by decide) rfl (by decide) rfl q_w1 rfl dJx4a65c_size_8abf5_1 ?_
  refine b_iret hX hE dJx4a65c_size_8abf5_4 (by omega) (by omega) ?_
  exact ⟨rfl, rfl⟩
abbrev rm_Jx4a65c_isEmpty_aae02 : Room := { frames := 0, cells := 0, slots := 0, locals := 0 }
theorem hd_Jx4a65c_isEmpty_aae02 : yJx4a65c_isEmpty_aae02.cls = RJx4a65c ∧ yJx4a65c_isEmpty_aae02.cls ≠ "java/lang/invoke/MethodHandle" ∧ yJx4a65c_isEmpty_aae02.cls ≠ "java/lang/invoke/VarHandle" ∧ (parseMethodDescriptor yJx4a65c_isEmpty_aae02.desc).map (fun d => d.parameters.length) = some 0 := by decide +kernel
set_option maxRecDepth 100000 in
set_option maxHeartbeats 4000000 in
theorem k_Jx4a65c_isEmpty_aae02 {D : va_G} {dT : Nat → ClassId} {Z : ZT} {K N : Nat → Nat} {I : Nat → Nat → Int32} {Rr : Nat → Nat → Option Nat} {ad : Nat → Nat} {L : List Nat} (l : Nat) (hl : l ∈ L) (hlk : K l = 3) : ∀ l8, BI l8 yJx4a65c_isEmpty_aae02 wsJx4a65c_isEmpty_aae02 rm_Jx4a65c_isEmpty_aae02 D (tyl dT) Z ad L (pf dT K N I Rr ad) [.ref (ad l)] 0 0 (fun r u => u = (ad, L, pf dT K N I Rr ad) ∧ (if I l 2 = 0 then 1 else 0) = r) := by
  intro l9
  refine bi_of (own := RJx4a65c) (cc := cJx4a65c_isEmpty_aae02) (maxL := 1) (some .boolean) [(0, .ref (ad l))] (by decide) rfl rfl rfl (Nat.le_of_ble_eq_true rfl) ?_
  intro X hX hE hN hM
  have q_w1 : Cond.fieldLink RJx4a65c 48 "java/util/ArrayList" "size" "I" ∈ wsJx4a65c_isEmpty_aae02 := List.mem_of_getElem? (i := 1) rfl
  have q_inJx4a65c : ∀ w ∈ wsJx4a65c0, w ∈ wsJx4a65c_isEmpty_aae02 := by decide +kernel
  refine g_aload_n hX 0 rfl dJx4a65c_isEmpty_aae02_0 rfl ?_
  refine g_getI (i := l) hX 3 2 q_inJx4a65c hl hlk (by decide) rfl (by decide) rfl q_w1 rfl dJx4a65c_isEmpty_aae02_1 ?_
  refine g_if_ne (tgt := 11) hX dJx4a65c_isEmpty_aae02_4 (by decide) (fun c_4 => ?_) (fun c_4 => ?_)
  · refine g_iconst hX (0) dJx4a65c_isEmpty_aae02_11 rfl ?_
    refine b_zret hX rfl hE dJx4a65c_isEmpty_aae02_12 (by omega) (by omega) ?_
    exact ⟨rfl, if_neg c_4⟩
  · refine g_iconst hX (1) dJx4a65c_isEmpty_aae02_7 rfl ?_
    refine g_goto (tgt := 12) hX dJx4a65c_isEmpty_aae02_8 (by decide) ?_
    refine b_zret hX rfl hE dJx4a65c_isEmpty_aae02_12 (by omega) (by omega) ?_
    exact ⟨rfl, if_pos c_4⟩
abbrev rm_Jx4a65c_elementData_915e3 : Room := { frames := 0, cells := 0, slots := 0, locals := 0 }
theorem hd_Jx4a65c_elementData_915e3 : yJx4a65c_elementData_915e3.cls = RJx4a65c ∧ yJx4a65c_elementData_915e3.cls ≠ "java/lang/invoke/MethodHandle" ∧ yJx4a65c_elementData_915e3.cls ≠ "java/lang/invoke/VarHandle" ∧ (parseMethodDescriptor yJx4a65c_elementData_915e3.desc).map (fun d => d.parameters.length) = some 1 := by decide +kernel
set_option maxRecDepth 100000 in
set_option maxHeartbeats 4000000 in
theorem k_Jx4a65c_elementData_915e3 {D : va_G} {dT : Nat → ClassId} {Z : ZT} {K N : Nat → Nat} {I : Nat → Nat → Int32} {Rr : Nat → Nat → Option Nat} {ad : Nat → Nat} {L : List Nat} (l : Nat) (hl : l ∈ L) (hlk : K l = 3) (e : Nat) (he : e ∈ L) (hek : K e = 25) (hre : Rr l 1 = some e) (s : Nat) (hse : s ≤ N e) (h31 : N e < 2 ^ 31) (i x : Nat) (hi : i < s) (hx : Rr e i = some x) : ∀ l8, BQ l8 yJx4a65c_elementData_915e3 wsJx4a65c_elementData_915e3 rm_Jx4a65c_elementData_915e3 D (tyl dT) Z ad L (pf dT K N I Rr ad) [.ref (ad l), .int (nI i)] 0 0 (fun r u => u = (ad, L, pf dT K N I Rr ad) ∧ some (ad x) = r) := by
  intro l9
  refine bq_of (own := RJx4a65c) (cc := cJx4a65c_elementData_915e3) (maxL := 2) (some (.object "java/lang/Object")) [(0, .ref (ad l)), (1, .int (nI i))] (by decide) rfl rfl rfl (Nat.le_of_ble_eq_true rfl) ?_
  intro X hX hE hN hM
  have q_w1 : Cond.fieldLink RJx4a65c 9 "java/util/ArrayList" "elementData" "[Ljava/lang/Object;" ∈ wsJx4a65c_elementData_915e3 := List.mem_of_getElem? (i := 1) rfl
  have q_inJx4a65c : ∀ w ∈ wsJx4a65c0, w ∈ wsJx4a65c_elementData_915e3 := by decide +kernel
  refine g_aload_n hX 0 rfl dJx4a65c_elementData_915e3_0 rfl ?_
  refine g_getRs (i := l) hX 3 1 q_inJx4a65c hl hlk (by decide) rfl (by decide) rfl q_w1 rfl (j := e) hre dJx4a65c_elementData_915e3_1 ?_
  refine g_iload_n hX 1 rfl dJx4a65c_elementData_915e3_4 rfl ?_
  refine h_aald25 (i := e) hX i rfl (by omega) h31 (j := x) hx he hek dJx4a65c_elementData_915e3_5 ?_
  refine b_aret hX (some (ad x)) rfl hE (Or.inl ⟨_, rfl⟩) dJx4a65c_elementData_915e3_6 (by omega) (by omega) ?_
  exact ⟨rfl, rfl⟩
abbrev rm_Jx4a65c_get_915e3 : Room := { frames := 2, cells := 0, slots := 0, locals := 43 }
theorem hd_Jx4a65c_get_915e3 : yJx4a65c_get_915e3.cls = RJx4a65c ∧ yJx4a65c_get_915e3.cls ≠ "java/lang/invoke/MethodHandle" ∧ yJx4a65c_get_915e3.cls ≠ "java/lang/invoke/VarHandle" ∧ (parseMethodDescriptor yJx4a65c_get_915e3.desc).map (fun d => d.parameters.length) = some 1 := by decide +kernel
set_option maxRecDepth 100000 in
set_option maxHeartbeats 4000000 in
theorem k_Jx4a65c_get_915e3 {D : va_G} {dT : Nat → ClassId} {Z : ZT} {K N : Nat → Nat} {I : Nat → Nat → Int32} {Rr : Nat → Nat → Option Nat} {ad : Nat → Nat} {L : List Nat} (l : Nat) (hl : l ∈ L) (hlk : K l = 3) (e : Nat) (he : e ∈ L) (hek : K e = 25) (hre : Rr l 1 = some e) (s : Nat) (hse : s ≤ N e) (h31 : N e < 2 ^ 31) (i x : Nat) (hi : i < s) (hx : Rr e i = some x) (hs : I l 2 = nI s) : ∀ l8, BQ l8 yJx4a65c_get_915e3 wsJx4a65c_get_915e3 rm_Jx4a65c_get_915e3 D (tyl dT) Z ad L (pf dT K N I Rr ad) [.ref (ad l), .int (nI i)] 0 0 (fun r u => u = (ad, L, pf dT K N I Rr ad) ∧ some (ad x) = r) := by
  intro l9
  refine bq_of (own := RJx4a65c) (cc := cJx4a65c_get_915e3) (maxL := 2) (some (.object "java/lang/Object")) [(0, .ref (ad l)), (1, .int (nI i))] (by decide) rfl rfl rfl (Nat.le_of_ble_eq_true rfl) ?_
  intro X hX hE hN hM
  have q_w1 : Cond.fieldLink RJx4a65c 48 "java/util/ArrayList" "size" "I" ∈ wsJx4a65c_get_915e3 := List.mem_of_getElem? (i := 1) rfl
  have q_inJx4a65c : ∀ w ∈ wsJx4a65c0, w ∈ wsJx4a65c_get_915e3 := by decide +kernel
  refine g_iload_n hX 1 rfl dJx4a65c_get_915e3_0 rfl ?_
  refine g_aload_n hX 0 rfl dJx4a65c_get_915e3_1 rfl ?_
  refine g_getI (i := l) hX 3 2 q_inJx4a65c hl hlk (by decide) rfl (by decide) rfl q_w1 rfl dJx4a65c_get_915e3_2 ?_
  refine g_eqi (y := (nI s)) hs ?_
  refine b_callI_S hX hM [.int (nI i), .int (nI s)] (k_J15_checkIndex_7cf53 i s hi (by omega)) gJx4a65c_get_915e3_J15_checkIndex_7cf53 rfl rfl rfl hd_J15_checkIndex_7cf53.2 ⟨Nat.le_of_ble_eq_true rfl, Nat.le_of_ble_eq_true rfl⟩ ⟨Nat.le_of_ble_eq_true rfl, Nat.le_of_ble_eq_true rfl⟩ rfl (Nat.le_of_ble_eq_true rfl) dJx4a65c_get_915e3_5 (fun r9 ad9 L9 f9 hp9 => ?_)
  obtain ⟨he9, hr9⟩ := hp9
  cases he9
  subst hr9
  refine g_pop hX dJx4a65c_get_915e3_8 rfl ?_
  refine g_aload_n hX 0 rfl dJx4a65c_get_915e3_9 rfl ?_
  refine g_iload_n hX 1 rfl dJx4a65c_get_915e3_10 rfl ?_
  refine b_callQ_V hX hM (b := l) [.int (nI i)] hl (pf_obj hlk (by decide)) rfl (k_Jx4a65c_elementData_915e3 l hl hlk e he hek hre s hse h31 i x hi hx) gJx4a65c_get_915e3_Jx4a65c_elementData_915e3 rfl rfl rfl hd_Jx4a65c_elementData_915e3 ⟨Nat.le_of_ble_eq_true rfl, Nat.le_of_ble_eq_true rfl⟩ ⟨Nat.le_of_ble_eq_true rfl, Nat.le_of_ble_eq_true rfl⟩ rfl (Nat.le_of_ble_eq_true rfl) dJx4a65c_get_915e3_11 (fun r9 ad9 L9 f9 hp9 => ?_)
  obtain ⟨he9, hr9⟩ := hp9
  cases he9
  subst hr9
  refine b_aret hX (some (ad x)) rfl hE (Or.inl ⟨_, rfl⟩) dJx4a65c_get_915e3_14 (by omega) (by omega) ?_
  exact ⟨rfl, rfl⟩
abbrev rm_Jxa1e45_init_da8c8 : Room := { frames := 1, cells := 0, slots := 0, locals := 23 }
theorem hd_Jxa1e45_init_da8c8 : yJxa1e45_init_da8c8.cls = RJxa1e45 ∧ yJxa1e45_init_da8c8.cls ≠ "java/lang/invoke/MethodHandle" ∧ yJxa1e45_init_da8c8.cls ≠ "java/lang/invoke/VarHandle" ∧ (parseMethodDescriptor yJxa1e45_init_da8c8.desc).map (fun d => d.parameters.length) = some 0 := by decide +kernel
set_option maxRecDepth 100000 in
set_option maxHeartbeats 4000000 in
theorem k_Jxa1e45_init_da8c8 {D : va_G} {dT : Nat → ClassId} {Z : ZT} {K N : Nat → Nat} {I : Nat → Nat → Int32} {Rr : Nat → Nat → Option Nat} {ad : Nat → Nat} {L : List Nat} (l : Nat) : ∀ l8, BV l8 yJxa1e45_init_da8c8 wsJxa1e45_init_da8c8 rm_Jxa1e45_init_da8c8 D (tyl dT) Z ad L (pf dT K N I Rr ad) [.ref (ad l)] 0 0 (fun u => u = (ad, L, pf dT K N I Rr ad)) := by
  intro l9
  refine bv_of (own := RJxa1e45) (cc := cJxa1e45_init_da8c8) (maxL := 1) [(0, .ref (ad l))] (by decide) rfl rfl rfl (Nat.le_of_ble_eq_true rfl) ?_
  intro X hX hE hN hM
  have q_w1 : Cond.methodLink RJxa1e45 1 objectInit ∈ wsJxa1e45_init_da8c8 := List.mem_of_getElem? (i := 1) rfl
  have q_w2 : Cond.instanceMethod objectInit ∈ wsJxa1e45_init_da8c8 := List.mem_of_getElem? (i := 2) rfl
  have q_w3 : Cond.code objectInit ⟨#[0xb1]⟩ 1 none ∈ wsJxa1e45_init_da8c8 := List.mem_of_getElem? (i := 3) rfl
  refine g_aload_n hX 0 rfl dJxa1e45_init_da8c8_0 rfl ?_
  refine g_objInit hX q_w1 q_w2 q_w3 dJxa1e45_init_da8c8_1 (Nat.le_of_ble_eq_true rfl) (Nat.le_of_ble_eq_true rfl) ?_
  refine b_vret hX hE dJxa1e45_init_da8c8_4 (by omega) (by omega) ?_
  exact rfl
abbrev rm_Jxc12de_init_da8c8 : Room := { frames := 2, cells := 0, slots := 0, locals := 43 }
theorem hd_Jxc12de_init_da8c8 : yJxc12de_init_da8c8.cls = RJxc12de ∧ yJxc12de_init_da8c8.cls ≠ "java/lang/invoke/MethodHandle" ∧ yJxc12de_init_da8c8.cls ≠ "java/lang/invoke/VarHandle" ∧ (parseMethodDescriptor yJxc12de_init_da8c8.desc).map (fun d => d.parameters.length) = some 0 := by decide +kernel
set_option maxRecDepth 100000 in
set_option maxHeartbeats 4000000 in
theorem k_Jxc12de_init_da8c8 {D : va_G} {dT : Nat → ClassId} {Z : ZT} {K N : Nat → Nat} {I : Nat → Nat → Int32} {Rr : Nat → Nat → Option Nat} {ad : Nat → Nat} {L : List Nat} (l : Nat) (hl : l ∈ L) (hlk : K l = 3) : ∀ l8, BV l8 yJxc12de_init_da8c8 wsJxc12de_init_da8c8 rm_Jxc12de_init_da8c8 D (tyl dT) Z ad L (pf dT K N I Rr ad) [.ref (ad l)] 0 0 (fun u => u = (ad, L, pf dT K N (up2 I l 0 0) Rr ad)) := by
  intro l9
  refine bv_of (own := RJxc12de) (cc := cJxc12de_init_da8c8) (maxL := 1) [(0, .ref (ad l))] (by decide) rfl rfl rfl (Nat.le_of_ble_eq_true rfl) ?_
  intro X hX hE hN hM
  have q_w3 : Cond.instanceMethod yJxa1e45_init_da8c8 ∈ wsJxc12de_init_da8c8 := List.mem_of_getElem? (i := 3) rfl
  have q_w4 : Cond.initialized RJxa1e45 ∈ wsJxc12de_init_da8c8 := List.mem_of_getElem? (i := 4) rfl
  have q_w2 : Cond.methodLink RJxc12de 1 yJxa1e45_init_da8c8 ∈ wsJxc12de_init_da8c8 := List.mem_of_getElem? (i := 2) rfl
  have q_w1 : Cond.fieldLink RJxc12de 7 "java/util/AbstractList" "modCount" "I" ∈ wsJxc12de_init_da8c8 := List.mem_of_getElem? (i := 1) rfl
  have q_inJx4a65c : ∀ w ∈ wsJx4a65c0, w ∈ wsJxc12de_init_da8c8 := by decide +kernel
  refine g_aload_n hX 0 rfl dJxc12de_init_da8c8_0 rfl ?_
  refine b_callV_I hX hM (b := l) [] (k_Jxa1e45_init_da8c8 l) gJxc12de_init_da8c8_Jxa1e45_init_da8c8 rfl rfl rfl q_w4 q_w2 q_w3 rfl hd_Jxa1e45_init_da8c8.2 ⟨Nat.le_of_ble_eq_true rfl, Nat.le_of_ble_eq_true rfl⟩ ⟨Nat.le_of_ble_eq_true rfl, Nat.le_of_ble_eq_true rfl⟩ rfl (Nat.le_of_ble_eq_true rfl) dJxc12de_init_da8c8_1 (fun ad9 L9 f9 hp9 => ?_)
  cases hp9
  refine g_aload_n hX 0 rfl dJxc12de_init_da8c8_4 rfl ?_
  refine g_iconst hX (0) dJxc12de_init_da8c8_5 rfl ?_
  refine g_putI hX (i := l) 3 0 q_inJx4a65c hl hlk (by decide) rfl (by decide) rfl q_w1 rfl tyJx4a65c_ok nmJx4a65c rfl (ty := .int) (by decide +kernel) rfl rfl dJxc12de_init_da8c8_6 ?_
  refine b_vret hX hE dJxc12de_init_da8c8_9 (by omega) (by omega) ?_
  exact rfl
abbrev rm_Jx4a65c_init_da8c8 : Room := { frames := 3, cells := 0, slots := 0, locals := 63 }
theorem hd_Jx4a65c_init_da8c8 : yJx4a65c_init_da8c8.cls = RJx4a65c ∧ yJx4a65c_init_da8c8.cls ≠ "java/lang/invoke/MethodHandle" ∧ yJx4a65c_init_da8c8.cls ≠ "java/lang/invoke/VarHandle" ∧ (parseMethodDescriptor yJx4a65c_init_da8c8.desc).map (fun d => d.parameters.length) = some 0 := by decide +kernel
set_option maxRecDepth 100000 in
set_option maxHeartbeats 4000000 in
theorem k_Jx4a65c_init_da8c8 {D : va_G} {dT : Nat → ClassId} {Z : ZT} {K N : Nat → Nat} {I : Nat → Nat → Int32} {Rr : Nat → Nat → Option Nat} {ad : Nat → Nat} {L : List Nat} (l : Nat) (hl : l ∈ L) (hlk : K l = 3) (zn : Nat) (hz : ad zn = Z.1) : ∀ l8, BV l8 yJx4a65c_init_da8c8 wsJx4a65c_init_da8c8 rm_Jx4a65c_init_da8c8 D (tyl dT) Z ad L (pf dT K N I Rr ad) [.ref (ad l)] 0 0 (fun u => u = (ad, L, pf dT K N (up2 I l 0 0) (up2 Rr l 1 (some zn)) ad)) := by
  intro l9
  refine bv_of (own := RJx4a65c) (cc := cJx4a65c_init_da8c8) (maxL := 1) [(0, .ref (ad l))] (by decide) rfl rfl rfl (Nat.le_of_ble_eq_true rfl) ?_
  intro X hX hE hN hM
  have q_w4 : Cond.instanceMethod yJxc12de_init_da8c8 ∈ wsJx4a65c_init_da8c8 := List.mem_of_getElem? (i := 4) rfl
  have q_w5 : Cond.initialized RJxc12de ∈ wsJx4a65c_init_da8c8 := List.mem_of_getElem? (i := 5) rfl
  have q_w3 : Cond.methodLink RJx4a65c 1 yJxc12de_init_da8c8 ∈ wsJx4a65c_init_da8c8 := List.mem_of_getElem? (i := 3) rfl
  have q_w1 : Cond.fieldLink RJx4a65c 39 "java/util/ArrayList" "DEFAULTCAPACITY_EMPTY_ELEMENTDATA" "[Ljava/lang/Object;" ∈ wsJx4a65c_init_da8c8 := List.mem_of_getElem? (i := 1) rfl
  have q_w2 : Cond.fieldLink RJx4a65c 9 "java/util/ArrayList" "elementData" "[Ljava/lang/Object;" ∈ wsJx4a65c_init_da8c8 := List.mem_of_getElem? (i := 2) rfl
  have q_inJx4a65c : ∀ w ∈ wsJx4a65c0, w ∈ wsJx4a65c_init_da8c8 := by decide +kernel
  refine g_aload_n hX 0 rfl dJx4a65c_init_da8c8_0 rfl ?_
  refine b_callV_I hX hM (b := l) [] (k_Jxc12de_init_da8c8 l hl hlk) gJx4a65c_init_da8c8_Jxc12de_init_da8c8 rfl rfl rfl q_w5 q_w3 q_w4 rfl hd_Jxc12de_init_da8c8.2 ⟨Nat.le_of_ble_eq_true rfl, Nat.le_of_ble_eq_true rfl⟩ ⟨Nat.le_of_ble_eq_true rfl, Nat.le_of_ble_eq_true rfl⟩ rfl (Nat.le_of_ble_eq_true rfl) dJx4a65c_init_da8c8_1 (fun ad9 L9 f9 hp9 => ?_)
  cases hp9
  refine g_aload_n hX 0 rfl dJx4a65c_init_da8c8_4 rfl ?_
  refine b_getsZ hX hM q_w1 dJx4a65c_init_da8c8_5 ?_
  refine g_putR hX (i := l) 3 1 q_inJx4a65c hl hlk (by decide) rfl (by decide) rfl q_w2 rfl tyJx4a65c_ok nmJx4a65c rfl (ty := .array (.object "java/lang/Object")) (by decide +kernel) (x := (some zn)) (by rw [← hz]; rfl) rfl rfl dJx4a65c_init_da8c8_8 ?_
  refine b_vret hX hE dJx4a65c_init_da8c8_11 (by omega) (by omega) ?_
  exact rfl
abbrev rm_Jx35411_init_45d68 : Room := { frames := 1, cells := 0, slots := 0, locals := 23 }
theorem hd_Jx35411_init_45d68 : yJx35411_init_45d68.cls = RJx35411 ∧ yJx35411_init_45d68.cls ≠ "java/lang/invoke/MethodHandle" ∧ yJx35411_init_45d68.cls ≠ "java/lang/invoke/VarHandle" ∧ (parseMethodDescriptor yJx35411_init_45d68.desc).map (fun d => d.parameters.length) = some 1 := by decide +kernel
set_option maxRecDepth 100000 in
set_option maxHeartbeats 4000000 in
theorem k_Jx35411_init_45d68 {D : va_G} {dT : Nat → ClassId} {Z : ZT} {K N : Nat → Nat} {I : Nat → Nat → Int32} {Rr : Nat → Nat → Option Nat} {ad : Nat → Nat} {L : List Nat} (t : Nat) (ht : t ∈ L) (htk : K t = 2) (l : Nat) (hl : l ∈ L) (hlk : K l = 3) (hlt : l ≠ t) : ∀ l8, BV l8 yJx35411_init_45d68 wsJx35411_init_45d68 rm_Jx35411_init_45d68 D (tyl dT) Z ad L (pf dT K N I Rr ad) [.ref (ad t), .ref (ad l)] 0 0 (fun u => u = (ad, L, pf dT K N (up2 (up2 I t 1 (-1)) t 2 (I l 0)) (up2 Rr t 3 (some l)) ad)) := by
  intro l9
  refine bv_of (own := RJx35411) (cc := cJx35411_init_45d68) (maxL := 2) [(0, .ref (ad t)), (1, .ref (ad l))] (by decide) rfl rfl rfl (Nat.le_of_ble_eq_true rfl) ?_
  intro X hX hE hN hM
  have q_w1 : Cond.fieldLink RJx35411 1 "java/util/ArrayList$Itr" "this$0" "Ljava/util/ArrayList;" ∈ wsJx35411_init_45d68 := List.mem_of_getElem? (i := 1) rfl
  have q_inJx35411 : ∀ w ∈ wsJx354110, w ∈ wsJx35411_init_45d68 := by decide +kernel
  have q_w2 : Cond.methodLink RJx35411 7 objectInit ∈ wsJx35411_init_45d68 := List.mem_of_getElem? (i := 2) rfl
  have q_w3 : Cond.instanceMethod objectInit ∈ wsJx35411_init_45d68 := List.mem_of_getElem? (i := 3) rfl
  have q_w4 : Cond.code objectInit ⟨#[0xb1]⟩ 1 none ∈ wsJx35411_init_45d68 := List.mem_of_getElem? (i := 4) rfl
  have q_w5 : Cond.fieldLink RJx35411 13 "java/util/ArrayList$Itr" "lastRet" "I" ∈ wsJx35411_init_45d68 := List.mem_of_getElem? (i := 5) rfl
  have q_w6 : Cond.fieldLink RJx35411 17 "java/util/ArrayList" "modCount" "I" ∈ wsJx35411_init_45d68 := List.mem_of_getElem? (i := 6) rfl
  have q_inJx4a65c : ∀ w ∈ wsJx4a65c0, w ∈ wsJx35411_init_45d68 := by decide +kernel
  have q_w7 : Cond.sameField "java/util/ArrayList" "java/util/AbstractList" "modCount" "I" ∈ wsJx35411_init_45d68 := List.mem_of_getElem? (i := 7) rfl
  have q_w8 : Cond.fieldLink RJx35411 22 "java/util/ArrayList$Itr" "expectedModCount" "I" ∈ wsJx35411_init_45d68 := List.mem_of_getElem? (i := 8) rfl
  refine g_aload_n hX 0 rfl dJx35411_init_45d68_0 rfl ?_
  refine g_aload_n hX 1 rfl dJx35411_init_45d68_1 rfl ?_
  refine g_putRF hX hN (i := t) 2 3 q_inJx35411 ht htk (by decide) rfl (by decide) rfl q_w1 rfl tyJx35411_ok nmJx35411 rfl rfl (ty := .object "java/util/ArrayList") (by decide +kernel) (x := (some l)) rfl rfl rfl dJx35411_init_45d68_2 ?_
  refine g_aload_n hX 0 rfl dJx35411_init_45d68_5 rfl ?_
  refine g_objInit hX q_w2 q_w3 q_w4 dJx35411_init_45d68_6 (Nat.le_of_ble_eq_true rfl) (Nat.le_of_ble_eq_true rfl) ?_
  refine g_aload_n hX 0 rfl dJx35411_init_45d68_9 rfl ?_
  refine g_iconst hX (-1) dJx35411_init_45d68_10 rfl ?_
  refine g_putI hX (i := t) 2 1 q_inJx35411 ht htk (by decide) rfl (by decide) rfl q_w5 rfl tyJx35411_ok nmJx35411 rfl (ty := .int) (by decide +kernel) rfl rfl dJx35411_init_45d68_11 ?_
  refine g_aload_n hX 0 rfl dJx35411_init_45d68_14 rfl ?_
  refine g_aload_n hX 0 rfl dJx35411_init_45d68_15 rfl ?_
  refine g_getRs (i := t) hX 2 3 q_inJx35411 ht htk (by decide) rfl (by decide) rfl q_w1 rfl (j := l) up2_s dJx35411_init_45d68_16 ?_
  refine b_getMC (i := l) hX q_inJx4a65c hl hlk q_w6 q_w7 dJx35411_init_45d68_19 ?_
  refine g_eqi (y := (I l 0)) (up2_n (Or.inl hlt)) ?_
  refine g_putI hX (i := t) 2 2 q_inJx35411 ht htk (by decide) rfl (by decide) rfl q_w8 rfl tyJx35411_ok nmJx35411 rfl (ty := .int) (by decide +kernel) rfl rfl dJx35411_init_45d68_22 ?_
  refine b_vret hX hE dJx35411_init_45d68_25 (by omega) (by omega) ?_
  exact rfl
abbrev rm_Jx4a65c_iterator_32c93 : Room := { frames := 2, cells := 1, slots := 4, locals := 44 }
theorem hd_Jx4a65c_iterator_32c93 : yJx4a65c_iterator_32c93.cls = RJx4a65c ∧ yJx4a65c_iterator_32c93.cls ≠ "java/lang/invoke/MethodHandle" ∧ yJx4a65c_iterator_32c93.cls ≠ "java/lang/invoke/VarHandle" ∧ (parseMethodDescriptor yJx4a65c_iterator_32c93.desc).map (fun d => d.parameters.length) = some 0 := by decide +kernel
set_option maxRecDepth 100000 in
set_option maxHeartbeats 4000000 in
theorem k_Jx4a65c_iterator_32c93 {D : va_G} {dT : Nat → ClassId} {Z : ZT} {K N : Nat → Nat} {I : Nat → Nat → Int32} {Rr : Nat → Nat → Option Nat} {ad : Nat → Nat} {L : List Nat} (l : Nat) (hl : l ∈ L) (hlk : K l = 3) (t : Nat) (hnt : t ∉ L) (hRt : ∀ i ∈ L, ∀ k, Rr i k ≠ some t) (htk : K t = 2) (hI0 : ∀ k, I t k = 0) (hR0 : ∀ k, Rr t k = none) : ∀ l8, BQ l8 yJx4a65c_iterator_32c93 wsJx4a65c_iterator_32c93 rm_Jx4a65c_iterator_32c93 D (tyl dT) Z ad L (pf dT K N I Rr ad) [.ref (ad l)] 1 4 (fun r u => ∃ q, u = (va_up ad t q, (L ++ [t]), pf dT K N (up2 (up2 I t 1 (-1)) t 2 (I l 0)) (up2 Rr t 3 (some l)) (va_up ad t q)) ∧ some q = r) := by
  intro l9
  refine bq_of (own := RJx4a65c) (cc := cJx4a65c_iterator_32c93) (maxL := 1) (some (.object "java/util/Iterator")) [(0, .ref (ad l))] (by decide) rfl rfl rfl (Nat.le_of_ble_eq_true rfl) ?_
  intro X hX hE hN hM
  have q_w1 : Cond.classLink RJx4a65c 267 RJx35411 ∈ wsJx4a65c_iterator_32c93 := List.mem_of_getElem? (i := 1) rfl
  have q_w2 : Cond.instantiable RJx35411 4 ∈ wsJx4a65c_iterator_32c93 := List.mem_of_getElem? (i := 2) rfl
  have q_w3 : Cond.initialized RJx35411 ∈ wsJx4a65c_iterator_32c93 := List.mem_of_getElem? (i := 3) rfl
  have q_inJx35411 : ∀ w ∈ wsJx354110, w ∈ wsJx4a65c_iterator_32c93 := by decide +kernel
  have q_w5 : Cond.instanceMethod yJx35411_init_45d68 ∈ wsJx4a65c_iterator_32c93 := List.mem_of_getElem? (i := 5) rfl
  have q_w4 : Cond.methodLink RJx4a65c 269 yJx35411_init_45d68 ∈ wsJx4a65c_iterator_32c93 := List.mem_of_getElem? (i := 4) rfl
  refine g_new hX 2 t hnt hRt htk (by decide) hI0 hR0 q_inJx35411 tyJx35411_ok q_w1 q_w2 q_w3 rfl (fun j hj => by rcases (show j = 0 ∨ j = 1 ∨ j = 2 ∨ j = 3 by omega) with rfl | rfl | rfl | rfl <;> rfl) (Nat.le_of_ble_eq_true rfl) (Nat.le_of_ble_eq_true rfl) dJx4a65c_iterator_32c93_0 (fun qn1 => ?_)
  obtain ⟨a2, ha2⟩ : ∃ z9, z9 = va_up ad t qn1 := ⟨_, rfl⟩
  have ga2 : ∀ i, i ∈ L → a2 i = ad i := fun i hi => by rw [ha2]; exact va_up_ne _ _ (fun h => hnt (h ▸ hi))
  rw [← ha2]
  refine g_lvs (lv2 := [(0, .ref (a2 l))]) (st2 := [.ref (a2 t)]) (by rw [ga2 l hl]) rfl ?_
  refine g_dup hX dJx4a65c_iterator_32c93_3 rfl ?_
  refine g_aload_n hX 0 rfl dJx4a65c_iterator_32c93_4 rfl ?_
  refine b_callV_I hX hM (b := t) [.ref (a2 l)] (k_Jx35411_init_45d68 t (List.mem_append_right _ (List.mem_singleton.mpr rfl)) htk l (List.mem_append_left _ hl) hlk (fun h => hnt (h ▸ hl))) gJx4a65c_iterator_32c93_Jx35411_init_45d68 rfl rfl rfl q_w3 q_w4 q_w5 rfl hd_Jx35411_init_45d68.2 ⟨Nat.le_of_ble_eq_true rfl, Nat.le_of_ble_eq_true rfl⟩ ⟨Nat.le_of_ble_eq_true rfl, Nat.le_of_ble_eq_true rfl⟩ rfl (Nat.le_of_ble_eq_true rfl) dJx4a65c_iterator_32c93_5 (fun ad9 L9 f9 hp9 => ?_)
  cases hp9
  refine b_aret hX (some (a2 t)) rfl hE (Or.inl ⟨_, rfl⟩) dJx4a65c_iterator_32c93_8 (by omega) (by omega) ?_
  subst ha2
  exact ⟨_, rfl, congrArg some (if_pos rfl).symm⟩
abbrev rm_Jx35411_hasNext_aae02 : Room := { frames := 0, cells := 0, slots := 0, locals := 0 }
theorem hd_Jx35411_hasNext_aae02 : yJx35411_hasNext_aae02.cls = RJx35411 ∧ yJx35411_hasNext_aae02.cls ≠ "java/lang/invoke/MethodHandle" ∧ yJx35411_hasNext_aae02.cls ≠ "java/lang/invoke/VarHandle" ∧ (parseMethodDescriptor yJx35411_hasNext_aae02.desc).map (fun d => d.parameters.length) = some 0 := by decide +kernel
set_option maxRecDepth 100000 in
set_option maxHeartbeats 4000000 in
theorem k_Jx35411_hasNext_aae02 {D : va_G} {dT : Nat → ClassId} {Z : ZT} {K N : Nat → Nat} {I : Nat → Nat → Int32} {Rr : Nat → Nat → Option Nat} {ad : Nat → Nat} {L : List Nat} (t : Nat) (ht : t ∈ L) (htk : K t = 2) (l : Nat) (hl : l ∈ L) (hlk : K l = 3) (htl : Rr t 3 = some l) : ∀ l8, BI l8 yJx35411_hasNext_aae02 wsJx35411_hasNext_aae02 rm_Jx35411_hasNext_aae02 D (tyl dT) Z ad L (pf dT K N I Rr ad) [.ref (ad t)] 0 0 (fun r u => u = (ad, L, pf dT K N I Rr ad) ∧ (if I t 0 = I l 2 then 0 else 1) = r) := by
  intro l9
  refine bi_of (own := RJx35411) (cc := cJx35411_hasNext_aae02) (maxL := 1) (some .boolean) [(0, .ref (ad t))] (by decide) rfl rfl rfl (Nat.le_of_ble_eq_true rfl) ?_
  intro X hX hE hN hM
  have q_w1 : Cond.fieldLink RJx35411 25 "java/util/ArrayList$Itr" "cursor" "I" ∈ wsJx35411_hasNext_aae02 := List.mem_of_getElem? (i := 1) rfl
  have q_inJx35411 : ∀ w ∈ wsJx354110, w ∈ wsJx35411_hasNext_aae02 := by decide +kernel
  have q_w2 : Cond.fieldLink RJx35411 1 "java/util/ArrayList$Itr" "this$0" "Ljava/util/ArrayList;" ∈ wsJx35411_hasNext_aae02 := List.mem_of_getElem? (i := 2) rfl
  have q_inJx4a65c : ∀ w ∈ wsJx4a65c0, w ∈ wsJx35411_hasNext_aae02 := by decide +kernel
  refine g_aload_n hX 0 rfl dJx35411_hasNext_aae02_0 rfl ?_
  refine g_getI (i := t) hX 2 0 q_inJx35411 ht htk (by decide) rfl (by decide) rfl q_w1 rfl dJx35411_hasNext_aae02_1 ?_
  refine g_aload_n hX 0 rfl dJx35411_hasNext_aae02_4 rfl ?_
  refine g_getRs (i := t) hX 2 3 q_inJx35411 ht htk (by decide) rfl (by decide) rfl q_w2 rfl (j := l) htl dJx35411_hasNext_aae02_5 ?_
  refine b_getSN (i := l) hX hM rfl q_inJx4a65c hl hlk dJx35411_hasNext_aae02_8 ?_
  refine g_icmp_eq (tgt := 18) hX dJx35411_hasNext_aae02_11 (by decide) (fun c_11 => ?_) (fun c_11 => ?_)
  · refine g_iconst hX (0) dJx35411_hasNext_aae02_18 rfl ?_
    refine b_zret hX rfl hE dJx35411_hasNext_aae02_19 (by omega) (by omega) ?_
    exact ⟨rfl, if_pos c_11⟩
  · refine g_iconst hX (1) dJx35411_hasNext_aae02_14 rfl ?_
    refine g_goto (tgt := 19) hX dJx35411_hasNext_aae02_15 (by decide) ?_
    refine b_zret hX rfl hE dJx35411_hasNext_aae02_19 (by omega) (by omega) ?_
    exact ⟨rfl, if_neg c_11⟩
abbrev rm_Jx35411_checkForComodification_da8c8 : Room := { frames := 0, cells := 0, slots := 0, locals := 0 }
theorem hd_Jx35411_checkForComodification_da8c8 : yJx35411_checkForComodification_da8c8.cls = RJx35411 ∧ yJx35411_checkForComodification_da8c8.cls ≠ "java/lang/invoke/MethodHandle" ∧ yJx35411_checkForComodification_da8c8.cls ≠ "java/lang/invoke/VarHandle" ∧ (parseMethodDescriptor yJx35411_checkForComodification_da8c8.desc).map (fun d => d.parameters.length) = some 0 := by decide +kernel
set_option maxRecDepth 100000 in
set_option maxHeartbeats 4000000 in
theorem k_Jx35411_checkForComodification_da8c8 {D : va_G} {dT : Nat → ClassId} {Z : ZT} {K N : Nat → Nat} {I : Nat → Nat → Int32} {Rr : Nat → Nat → Option Nat} {ad : Nat → Nat} {L : List Nat} (t : Nat) (ht : t ∈ L) (htk : K t = 2) (l : Nat) (hl : l ∈ L) (hlk : K l = 3) (htl : Rr t 3 = some l) (hmc : I t 2 = I l 0) : ∀ l8, BV l8 yJx35411_checkForComodification_da8c8 wsJx35411_checkForComodification_da8c8 rm_Jx35411_checkForComodification_da8c8 D (tyl dT) Z ad L (pf dT K N I Rr ad) [.ref (ad t)] 0 0 (fun u => u = (ad, L, pf dT K N I Rr ad)) := by
  intro l9
  refine bv_of (own := RJx35411) (cc := cJx35411_checkForComodification_da8c8) (maxL := 1) [(0, .ref (ad t))] (by decide) rfl rfl rfl (Nat.le_of_ble_eq_true rfl) ?_
  intro X hX hE hN hM
  have q_w1 : Cond.fieldLink RJx35411 1 "java/util/ArrayList$Itr" "this$0" "Ljava/util/ArrayList;" ∈ wsJx35411_checkForComodification_da8c8 := List.mem_of_getElem? (i := 1) rfl
  have q_inJx35411 : ∀ w ∈ wsJx354110, w ∈ wsJx35411_checkForComodification_da8c8 := by decide +kernel
  have q_w2 : Cond.fieldLink RJx35411 17 "java/util/ArrayList" "modCount" "I" ∈ wsJx35411_checkForComodification_da8c8 := List.mem_of_getElem? (i := 2) rfl
  have q_inJx4a65c : ∀ w ∈ wsJx4a65c0, w ∈ wsJx35411_checkForComodification_da8c8 := by decide +kernel
  have q_w3 : Cond.sameField "java/util/ArrayList" "java/util/AbstractList" "modCount" "I" ∈ wsJx35411_checkForComodification_da8c8 := List.mem_of_getElem? (i := 3) rfl
  have q_w4 : Cond.fieldLink RJx35411 22 "java/util/ArrayList$Itr" "expectedModCount" "I" ∈ wsJx35411_checkForComodification_da8c8 := List.mem_of_getElem? (i := 4) rfl
  refine g_aload_n hX 0 rfl dJx35411_checkForComodification_da8c8_0 rfl ?_
  refine g_getRs (i := t) hX 2 3 q_inJx35411 ht htk (by decide) rfl (by decide) rfl q_w1 rfl (j := l) htl dJx35411_checkForComodification_da8c8_1 ?_
  refine b_getMC (i := l) hX q_inJx4a65c hl hlk q_w2 q_w3 dJx35411_checkForComodification_da8c8_4 ?_
  refine g_aload_n hX 0 rfl dJx35411_checkForComodification_da8c8_7 rfl ?_
  refine g_getI (i := t) hX 2 2 q_inJx35411 ht htk (by decide) rfl (by decide) rfl q_w4 rfl dJx35411_checkForComodification_da8c8_8 ?_
  refine g_icmp_eq (tgt := 22) hX dJx35411_checkForComodification_da8c8_11 (by decide) (fun c_11 => ?_) (fun c_11 => ?_)
  · refine b_vret hX hE dJx35411_checkForComodification_da8c8_22 (by omega) (by omega) ?_
    exact rfl
  · exact absurd hmc.symm c_11
abbrev rm_Jx35411_next_0502b : Room := { frames := 1, cells := 0, slots := 0, locals := 20 }
theorem hd_Jx35411_next_0502b : yJx35411_next_0502b.cls = RJx35411 ∧ yJx35411_next_0502b.cls ≠ "java/lang/invoke/MethodHandle" ∧ yJx35411_next_0502b.cls ≠ "java/lang/invoke/VarHandle" ∧ (parseMethodDescriptor yJx35411_next_0502b.desc).map (fun d => d.parameters.length) = some 0 := by decide +kernel
set_option maxRecDepth 100000 in
set_option maxHeartbeats 4000000 in
theorem k_Jx35411_next_0502b {D : va_G} {dT : Nat → ClassId} {Z : ZT} {K N : Nat → Nat} {I : Nat → Nat → Int32} {Rr : Nat → Nat → Option Nat} {ad : Nat → Nat} {L : List Nat} (t : Nat) (ht : t ∈ L) (htk : K t = 2) (l : Nat) (hl : l ∈ L) (hlk : K l = 3) (htl : Rr t 3 = some l) (hmc : I t 2 = I l 0) (e : Nat) (he : e ∈ L) (hek : K e = 25) (hre : Rr l 1 = some e) (s : Nat) (hse : s ≤ N e) (h31 : N e < 2 ^ 31) (hs : I l 2 = nI s) (k x : Nat) (hk : k < s) (hck : I t 0 = nI k) (hx : Rr e k = some x) : ∀ l8, BQ l8 yJx35411_next_0502b wsJx35411_next_0502b rm_Jx35411_next_0502b D (tyl dT) Z ad L (pf dT K N I Rr ad) [.ref (ad t)] 0 0 (fun r u => u = (ad, L, pf dT K N (up2 (up2 I t 0 (nI (k + 1))) t 1 (nI k)) Rr ad) ∧ some (ad x) = r) := by
  intro l9
  refine bq_of (own := RJx35411) (cc := cJx35411_next_0502b) (maxL := 3) (some (.object "java/lang/Object")) [(0, .ref (ad t))] (by decide) rfl rfl rfl (Nat.le_of_ble_eq_true rfl) ?_
  intro X hX hE hN hM
  have q_w1 : Cond.fieldLink RJx35411 25 "java/util/ArrayList$Itr" "cursor" "I" ∈ wsJx35411_next_0502b := List.mem_of_getElem? (i := 1) rfl
  have q_inJx35411 : ∀ w ∈ wsJx354110, w ∈ wsJx35411_next_0502b := by decide +kernel
  have q_w2 : Cond.fieldLink RJx35411 1 "java/util/ArrayList$Itr" "this$0" "Ljava/util/ArrayList;" ∈ wsJx35411_next_0502b := List.mem_of_getElem? (i := 2) rfl
  have q_inJx4a65c : ∀ w ∈ wsJx4a65c0, w ∈ wsJx35411_next_0502b := by decide +kernel
  have q_w3 : Cond.fieldLink RJx35411 37 "java/util/ArrayList" "elementData" "[Ljava/lang/Object;" ∈ wsJx35411_next_0502b := List.mem_of_getElem? (i := 3) rfl
  have q_w4 : Cond.fieldLink RJx35411 13 "java/util/ArrayList$Itr" "lastRet" "I" ∈ wsJx35411_next_0502b := List.mem_of_getElem? (i := 4) rfl
  refine g_aload_n hX 0 rfl dJx35411_next_0502b_0 rfl ?_
  refine b_callV_V hX hM (b := t) [] ht (pf_obj htk (by decide)) rfl (k_Jx35411_checkForComodification_da8c8 t ht htk l hl hlk htl hmc) gJx35411_next_0502b_Jx35411_checkForComodification_da8c8 rfl rfl rfl hd_Jx35411_checkForComodification_da8c8 ⟨Nat.le_of_ble_eq_true rfl, Nat.le_of_ble_eq_true rfl⟩ ⟨Nat.le_of_ble_eq_true rfl, Nat.le_of_ble_eq_true rfl⟩ rfl (Nat.le_of_ble_eq_true rfl) dJx35411_next_0502b_1 (fun ad9 L9 f9 hp9 => ?_)
  cases hp9
  refine g_aload_n hX 0 rfl dJx35411_next_0502b_4 rfl ?_
  refine g_getI (i := t) hX 2 0 q_inJx35411 ht htk (by decide) rfl (by decide) rfl q_w1 rfl dJx35411_next_0502b_5 ?_
  refine g_eqi (y := (nI k)) hck ?_
  refine g_istore_n hX [(1, .int (nI k)), (0, .ref (ad t))] rfl dJx35411_next_0502b_8 rfl (by decide) ?_
  refine g_iload_n hX 0 rfl dJx35411_next_0502b_9 rfl ?_
  refine g_aload_n hX 1 rfl dJx35411_next_0502b_10 rfl ?_
  refine g_getRs (i := t) hX 2 3 q_inJx35411 ht htk (by decide) rfl (by decide) rfl q_w2 rfl (j := l) htl dJx35411_next_0502b_11 ?_
  refine b_getSN (i := l) hX hM rfl q_inJx4a65c hl hlk dJx35411_next_0502b_14 ?_
  refine g_eqi (y := (nI s)) hs ?_
  refine g_icmp_lt (tgt := 28) hX dJx35411_next_0502b_17 (by decide) (fun c_17 => ?_) (fun c_17 => ?_)
  · have c_17 : k < s := (nI_ltI (a := k) (b := s) (by omega) (by omega)).mp c_17
    refine g_aload_n hX 1 rfl dJx35411_next_0502b_28 rfl ?_
    refine g_getRs (i := t) hX 2 3 q_inJx35411 ht htk (by decide) rfl (by decide) rfl q_w2 rfl (j := l) htl dJx35411_next_0502b_29 ?_
    refine g_getRs (i := l) hX 3 1 q_inJx4a65c hl hlk (by decide) rfl (by decide) rfl q_w3 rfl (j := e) hre dJx35411_next_0502b_32 ?_
    refine g_astore_n hX [(2, .ref (ad e)), (1, .int (nI k)), (0, .ref (ad t))] rfl dJx35411_next_0502b_35 rfl (by decide) ?_
    refine g_iload_n hX 1 rfl dJx35411_next_0502b_36 rfl ?_
    refine g_aload_n hX 0 rfl dJx35411_next_0502b_37 rfl ?_
    refine g_alen25 (i := e) hX rfl (nI (N e)) he hek rfl dJx35411_next_0502b_38 ?_
    refine g_icmp_lt (tgt := 50) hX dJx35411_next_0502b_39 (by decide) (fun c_39 => ?_) (fun c_39 => ?_)
    · have c_39 : k < (N e) := (nI_ltI (a := k) (b := (N e)) (by omega) (by omega)).mp c_39
      refine g_aload_n hX 2 rfl dJx35411_next_0502b_50 rfl ?_
      refine g_iload_n hX 1 rfl dJx35411_next_0502b_51 rfl ?_
      refine g_iconst hX (1) dJx35411_next_0502b_52 rfl ?_
      refine g_iadd hX dJx35411_next_0502b_53 ?_
      refine g_eqi (y := nI (k + 1)) (nI_1 k) ?_
      refine g_putI hX (i := t) 2 0 q_inJx35411 ht htk (by decide) rfl (by decide) rfl q_w1 rfl tyJx35411_ok nmJx35411 rfl (ty := .int) (by decide +kernel) rfl rfl dJx35411_next_0502b_54 ?_
      refine g_aload_n hX 0 rfl dJx35411_next_0502b_57 rfl ?_
      refine g_aload_n hX 2 rfl dJx35411_next_0502b_58 rfl ?_
      refine g_iload_n hX 1 rfl dJx35411_next_0502b_59 rfl ?_
      refine g_dupx1 hX dJx35411_next_0502b_60 rfl rfl ?_
      refine g_putI hX (i := t) 2 1 q_inJx35411 ht htk (by decide) rfl (by decide) rfl q_w4 rfl tyJx35411_ok nmJx35411 rfl (ty := .int) (by decide +kernel) rfl rfl dJx35411_next_0502b_61 ?_
      refine h_aald25 (i := e) hX k rfl (by omega) h31 (j := x) hx he hek dJx35411_next_0502b_64 ?_
      refine b_aret hX (some (ad x)) rfl hE (Or.inl ⟨_, rfl⟩) dJx35411_next_0502b_65 (by omega) (by omega) ?_
      exact ⟨rfl, rfl⟩
    · exact absurd (nI_lt (show k < N e by omega) h31) c_39
  · exact absurd (nI_lt hk (by omega)) c_17
abbrev rm_J8_newLength_cabcc : Room := { frames := 1, cells := 0, slots := 0, locals := 24 }
theorem hd_J8_newLength_cabcc : yJ8_newLength_cabcc.cls = RJ8 ∧ yJ8_newLength_cabcc.cls ≠ "java/lang/invoke/MethodHandle" ∧ yJ8_newLength_cabcc.cls ≠ "java/lang/invoke/VarHandle" ∧ (parseMethodDescriptor yJ8_newLength_cabcc.desc).map (fun d => d.parameters.length) = some 3 := by decide +kernel
set_option maxRecDepth 100000 in
set_option maxHeartbeats 4000000 in
theorem k_J8_newLength_cabcc {D : va_G} {dT : Nat → ClassId} {Z : ZT} {K N : Nat → Nat} {I : Nat → Nat → Int32} {Rr : Nat → Nat → Option Nat} {ad : Nat → Nat} {L : List Nat} (n : Nat) (h2 : 2 ≤ n) (h4 : n ≤ 100000) : ∀ l8, BI l8 yJ8_newLength_cabcc wsJ8_newLength_cabcc rm_J8_newLength_cabcc D (tyl dT) Z ad L (pf dT K N I Rr ad) [.int (nI n), .int 1, .int (nI (n / 2))] 0 0 (fun r u => u = (ad, L, pf dT K N I Rr ad) ∧ nI (n + n / 2) = r) := by
  intro l9
  refine bi_of (own := RJ8) (cc := cJ8_newLength_cabcc) (maxL := 4) (some .int) [(0, .int (nI n)), (1, .int 1), (2, .int (nI (n / 2)))] (by decide) rfl rfl rfl (Nat.le_of_ble_eq_true rfl) ?_
  intro X hX hE hN hM
  have q_w1 : Cond.methodLink RJ8 194 Lib.Math.max.name ∈ wsJ8_newLength_cabcc := List.mem_of_getElem? (i := 1) rfl
  have q_w2 : Cond.static Lib.Math.max.name ∈ wsJ8_newLength_cabcc := List.mem_of_getElem? (i := 2) rfl
  have q_w3 : Cond.initialized "java/lang/Math" ∈ wsJ8_newLength_cabcc := List.mem_of_getElem? (i := 3) rfl
  have q_w4 : Cond.code Lib.Math.max.name Lib.Math.max.code 2 (some .int) ∈ wsJ8_newLength_cabcc := List.mem_of_getElem? (i := 4) rfl
  have q_w5 : Cond.constant RJ8 200 (2147483639) ∈ wsJ8_newLength_cabcc := List.mem_of_getElem? (i := 5) rfl
  refine g_iload_n hX 0 rfl dJ8_newLength_cabcc_0 rfl ?_
  refine g_iload_n hX 1 rfl dJ8_newLength_cabcc_1 rfl ?_
  refine g_iload_n hX 2 rfl dJ8_newLength_cabcc_2 rfl ?_
  refine g_mmax hX q_w1 q_w2 q_w3 q_w4 (Nat.le_of_ble_eq_true rfl) (Nat.le_of_ble_eq_true rfl) (Nat.le_of_ble_eq_true rfl) (Nat.le_of_ble_eq_true rfl) dJ8_newLength_cabcc_3 ?_
  refine g_eqi (y := (nI (n / 2))) (mx_half h2 h4) ?_
  refine g_iadd hX dJ8_newLength_cabcc_6 ?_
  refine g_eqi (y := nI (n + n / 2)) (nI_add n (n / 2)) ?_
  refine g_istore_n hX [(3, .int (nI (n + n / 2))), (0, .int (nI n)), (1, .int 1), (2, .int (nI (n / 2)))] rfl dJ8_newLength_cabcc_7 rfl (by decide) ?_
  refine g_iconst hX (0) dJ8_newLength_cabcc_8 rfl ?_
  refine g_iload_n hX 0 rfl dJ8_newLength_cabcc_9 rfl ?_
  refine g_icmp_ge (tgt := 21) hX dJ8_newLength_cabcc_10 (by decide) (fun c_10 => ?_) (fun c_10 => ?_)
  · exact absurd c_10 (fun h => absurd ((nI_leI (a := n + n / 2) (b := 0) (by omega) (by omega)).mp h) (by omega))
  · have c_10 : ¬ (n + n / 2) ≤ 0 := fun h9 => c_10 ((nI_leI (a := (n + n / 2)) (b := 0) (by omega) (by omega)).mpr h9)
    refine g_iload_n hX 0 rfl dJ8_newLength_cabcc_13 rfl ?_
    refine g_ldc hX (2147483639) q_w5 dJ8_newLength_cabcc_14 ?_
    refine g_icmp_gt (tgt := 21) hX dJ8_newLength_cabcc_16 (by decide) (fun c_16 => ?_) (fun c_16 => ?_)
    · exact absurd c_16 (nl_max (by omega))
    · have c_16 : ¬ 2147483639 < (n + n / 2) := fun h9 => c_16 ((nI_ltI (a := 2147483639) (b := (n + n / 2)) (by omega) (by omega)).mpr h9)
      refine g_iload_n hX 0 rfl dJ8_newLength_cabcc_19 rfl ?_
      refine b_iret hX hE dJ8_newLength_cabcc_20 (by omega) (by omega) ?_
      exact ⟨rfl, rfl⟩
abbrev rm_J7_copyOf_6403c (m : Nat) : Room := { frames := 1, cells := 1, slots := m, locals := 59 }
theorem hd_J7_copyOf_6403c : yJ7_copyOf_6403c.cls = RJ7 ∧ yJ7_copyOf_6403c.cls ≠ "java/lang/invoke/MethodHandle" ∧ yJ7_copyOf_6403c.cls ≠ "java/lang/invoke/VarHandle" ∧ (parseMethodDescriptor yJ7_copyOf_6403c.desc).map (fun d => d.parameters.length) = some 3 := by decide +kernel
set_option maxRecDepth 100000 in
set_option maxHeartbeats 4000000 in
theorem k_J7_copyOf_6403c {D : va_G} {dT : Nat → ClassId} {Z : ZT} {K N : Nat → Nat} {I : Nat → Nat → Int32} {Rr : Nat → Nat → Option Nat} {ad : Nat → Nat} {L : List Nat} (e : Nat) (he : e ∈ L) (hek : K e = 25) (e2 : Nat) (hn2 : e2 ∉ L) (hR2 : ∀ i ∈ L, ∀ k, Rr i k ≠ some e2) (hk2 : K e2 = 25) (m : Nat) (hN2 : N e2 = m) (hR20 : ∀ k, Rr e2 k = none) (hm : N e ≤ m) (hm5 : m < 100000) (kd : Nat) (C : String) (hC : (C = "[I" ∧ kd = 20) ∨ (C = "[[Z" ∧ kd = 26)) (hel : ∀ k, k < N e → ∀ y, Rr e k = some y → y ∈ L ∧ K y = kd) : ∀ l8, BQ l8 yJ7_copyOf_6403c wsJ7_copyOf_6403c (rm_J7_copyOf_6403c m) D (tyl dT) Z ad L (pf dT K N I Rr ad) [.ref (ad e), .int (nI m), .ref Z.2.2.2] 1 m (fun r u => ∃ q, u = (va_up ad e2 q, (L ++ [e2]), pf dT K N I (fun a => if a = e2 then fun k => if k < N e then Rr e k else Rr e2 k else Rr a) (va_up ad e2 q)) ∧ some q = r) := by
  intro l9
  refine bq_of (own := RJ7) (cc := cJ7_copyOf_6403c) (maxL := 4) (some (.array (.object "java/lang/Object"))) [(0, .ref (ad e)), (1, .int (nI m)), (2, .ref Z.2.2.2)] (by decide) rfl rfl rfl (Nat.le_of_ble_eq_true rfl) ?_
  intro X hX hE hN hM
  have q_w1 : Cond.classLink RJ7 110 "[Ljava/lang/Object;" ∈ wsJ7_copyOf_6403c := List.mem_of_getElem? (i := 1) rfl
  have q_w2 : Cond.classLink RJ7 2 "java/lang/Object" ∈ wsJ7_copyOf_6403c := List.mem_of_getElem? (i := 2) rfl
  have q_w3 : Cond.methodLink RJ7 304 Lib.Math.min.name ∈ wsJ7_copyOf_6403c := List.mem_of_getElem? (i := 3) rfl
  have q_w4 : Cond.static Lib.Math.min.name ∈ wsJ7_copyOf_6403c := List.mem_of_getElem? (i := 4) rfl
  have q_w5 : Cond.initialized "java/lang/Math" ∈ wsJ7_copyOf_6403c := List.mem_of_getElem? (i := 5) rfl
  have q_w6 : Cond.code Lib.Math.min.name Lib.Math.min.code 2 (some .int) ∈ wsJ7_copyOf_6403c := List.mem_of_getElem? (i := 6) rfl
  have q_w7 : Cond.methodLink RJ7 150 arraycopyName ∈ wsJ7_copyOf_6403c := List.mem_of_getElem? (i := 7) rfl
  have q_w8 : Cond.native arraycopyName ∈ wsJ7_copyOf_6403c := List.mem_of_getElem? (i := 8) rfl
  have q_w9 : Cond.static arraycopyName ∈ wsJ7_copyOf_6403c := List.mem_of_getElem? (i := 9) rfl
  have q_w10 : Cond.initialized "java/lang/System" ∈ wsJ7_copyOf_6403c := List.mem_of_getElem? (i := 10) rfl
  refine g_aload_n hX 2 rfl dJ7_copyOf_6403c_0 rfl ?_
  refine b_ldcM hX hM q_w1 dJ7_copyOf_6403c_1 ?_
  refine g_acmp_ne (rx := some Z.2.2.2) (ry := some Z.2.2.2) (tgt := 13) hX dJ7_copyOf_6403c_3 (by decide) (fun c_3 => ?_) (fun c_3 => ?_)
  · exact absurd rfl c_3
  · refine g_iload_n hX 1 rfl dJ7_copyOf_6403c_6 rfl ?_
    refine g_newR25 hX e2 hn2 hR2 m hk2 hN2 hR20 (x := nI m) rfl hm5 q_w2 (hM.ao (by decide)) (Nat.le_of_ble_eq_true rfl) (by show 0 + m ≤ m; omega) dJ7_copyOf_6403c_7 (fun qn1 => ?_)
    obtain ⟨a2, ha2⟩ : ∃ z9, z9 = va_up ad e2 qn1 := ⟨_, rfl⟩
    have ga2 : ∀ i, i ∈ L → a2 i = ad i := fun i hi => by rw [ha2]; exact va_up_ne _ _ (fun h => hn2 (h ▸ hi))
    rw [← ha2]
    refine g_lvs (lv2 := [(0, .ref (a2 e)), (1, .int (nI m)), (2, .ref Z.2.2.2)]) (st2 := [.ref (a2 e2)]) (by rw [ga2 e he]) rfl ?_
    refine g_goto (tgt := 24) hX dJ7_copyOf_6403c_10 (by decide) ?_
    refine g_astore_n hX [(3, .ref (a2 e2)), (0, .ref (a2 e)), (1, .int (nI m)), (2, .ref Z.2.2.2)] rfl dJ7_copyOf_6403c_24 rfl (by decide) ?_
    refine g_aload_n hX 1 rfl dJ7_copyOf_6403c_25 rfl ?_
    refine g_iconst hX (0) dJ7_copyOf_6403c_26 rfl ?_
    refine g_aload_n hX 0 rfl dJ7_copyOf_6403c_27 rfl ?_
    refine g_iconst hX (0) dJ7_copyOf_6403c_28 rfl ?_
    refine g_aload_n hX 1 rfl dJ7_copyOf_6403c_29 rfl ?_
    refine g_alen25 (i := e) hX rfl (nI (N e)) (List.mem_append_left _ he) hek rfl dJ7_copyOf_6403c_30 ?_
    refine g_iload_n hX 2 rfl dJ7_copyOf_6403c_31 rfl ?_
    refine g_mmin hX q_w3 q_w4 q_w5 q_w6 (Nat.le_of_ble_eq_true rfl) (Nat.le_of_ble_eq_true rfl) (Nat.le_of_ble_eq_true rfl) (by show 0 + m ≤ m; omega) dJ7_copyOf_6403c_32 ?_
    refine g_eqi (y := (nI (N e))) (mn_le hm (by omega)) ?_
    refine b_copyq (i := e) (j := e2) (n := N e) (kd := kd) (C := C) hX hM (List.mem_append_left _ he) hek (List.mem_append_right _ (List.mem_singleton.mpr rfl)) hk2 hC (Nat.le_refl _) (by omega) (by omega) (fun k h y hy => ⟨List.mem_append_left _ (hel k h y hy).1, (hel k h y hy).2⟩) q_w7 q_w8 q_w9 q_w10 (Nat.le_of_ble_eq_true rfl) (Nat.le_trans nfw59 (Nat.le_of_ble_eq_true rfl)) dJ7_copyOf_6403c_35 ?_
    refine g_aload_n hX 0 rfl dJ7_copyOf_6403c_38 rfl ?_
    refine b_aret hX (some (a2 e2)) rfl hE (Or.inr ⟨_, rfl⟩) dJ7_copyOf_6403c_39 (by omega) (by omega) ?_
    subst ha2
    exact ⟨_, rfl, congrArg some (if_pos rfl).symm⟩
abbrev rm_J7_copyOf_1904c (m : Nat) : Room := { frames := 2, cells := 1, slots := m, locals := 82 }
theorem hd_J7_copyOf_1904c : yJ7_copyOf_1904c.cls = RJ7 ∧ yJ7_copyOf_1904c.cls ≠ "java/lang/invoke/MethodHandle" ∧ yJ7_copyOf_1904c.cls ≠ "java/lang/invoke/VarHandle" ∧ (parseMethodDescriptor yJ7_copyOf_1904c.desc).map (fun d => d.parameters.length) = some 2 := by decide +kernel
set_option maxRecDepth 100000 in
set_option maxHeartbeats 4000000 in
theorem k_J7_copyOf_1904c {D : va_G} {dT : Nat → ClassId} {Z : ZT} {K N : Nat → Nat} {I : Nat → Nat → Int32} {Rr : Nat → Nat → Option Nat} {ad : Nat → Nat} {L : List Nat} (e : Nat) (he : e ∈ L) (hek : K e = 25) (e2 : Nat) (hn2 : e2 ∉ L) (hR2 : ∀ i ∈ L, ∀ k, Rr i k ≠ some e2) (hk2 : K e2 = 25) (m : Nat) (hN2 : N e2 = m) (hR20 : ∀ k, Rr e2 k = none) (hm : N e ≤ m) (hm5 : m < 100000) (kd : Nat) (C : String) (hC : (C = "[I" ∧ kd = 20) ∨ (C = "[[Z" ∧ kd = 26)) (hel : ∀ k, k < N e → ∀ y, Rr e k = some y → y ∈ L ∧ K y = kd) : ∀ l8, BQ l8 yJ7_copyOf_1904c wsJ7_copyOf_1904c (rm_J7_copyOf_1904c m) D (tyl dT) Z ad L (pf dT K N I Rr ad) [.ref (ad e), .int (nI m)] 1 m (fun r u => ∃ q, u = (va_up ad e2 q, (L ++ [e2]), pf dT K N I (fun a => if a = e2 then fun k => if k < N e then Rr e k else Rr e2 k else Rr a) (va_up ad e2 q)) ∧ some q = r) := by
  intro l9
  refine bq_of (own := RJ7) (cc := cJ7_copyOf_1904c) (maxL := 2) (some (.array (.object "java/lang/Object"))) [(0, .ref (ad e)), (1, .int (nI m))] (by decide) rfl rfl rfl (Nat.le_of_ble_eq_true rfl) ?_
  intro X hX hE hN hM
  have q_w1 : Cond.methodLink RJ7 86 ⟨"java/lang/Object", "getClass", "()Ljava/lang/Class;"⟩ ∈ wsJ7_copyOf_1904c := List.mem_of_getElem? (i := 1) rfl
  have q_w2 : Cond.selects "[Ljava/lang/Object;" ⟨"java/lang/Object", "getClass", "()Ljava/lang/Class;"⟩ ⟨"java/lang/Object", "getClass", "()Ljava/lang/Class;"⟩ ∈ wsJ7_copyOf_1904c := List.mem_of_getElem? (i := 2) rfl
  have q_w3 : Cond.instanceMethod ⟨"java/lang/Object", "getClass", "()Ljava/lang/Class;"⟩ ∈ wsJ7_copyOf_1904c := List.mem_of_getElem? (i := 3) rfl
  have q_w4 : Cond.native ⟨"java/lang/Object", "getClass", "()Ljava/lang/Class;"⟩ ∈ wsJ7_copyOf_1904c := List.mem_of_getElem? (i := 4) rfl
  refine g_aload_n hX 0 rfl dJ7_copyOf_1904c_0 rfl ?_
  refine g_iload_n hX 1 rfl dJ7_copyOf_1904c_1 rfl ?_
  refine g_aload_n hX 0 rfl dJ7_copyOf_1904c_2 rfl ?_
  refine b_getC (i := e) hX hM he hek q_w1 q_w2 q_w3 q_w4 (Nat.le_of_ble_eq_true rfl) (Nat.le_of_ble_eq_true rfl) dJ7_copyOf_1904c_3 ?_
  refine b_callQ_S hX hM [.ref (ad e), .int (nI m), .ref Z.2.2.2] (k_J7_copyOf_6403c e he hek e2 hn2 hR2 hk2 m hN2 hR20 hm hm5 kd C hC hel) gJ7_copyOf_1904c_J7_copyOf_6403c rfl rfl rfl hd_J7_copyOf_6403c.2 ⟨Nat.le_of_ble_eq_true rfl, Nat.le_of_ble_eq_true rfl⟩ ⟨Nat.le_of_ble_eq_true rfl, by show 0 + m ≤ m; omega⟩ rfl (Nat.le_of_ble_eq_true rfl) dJ7_copyOf_1904c_6 (fun r9 ad9 L9 f9 hp9 => ?_)
  obtain ⟨qa1, he9, hr9⟩ := hp9
  cases he9
  subst hr9
  obtain ⟨a1, ha1⟩ : ∃ z9, z9 = va_up ad e2 qa1 := ⟨_, rfl⟩
  have ga1 : ∀ i, i ∈ L → a1 i = ad i := fun i hi => by rw [ha1]; exact va_up_ne _ _ (fun h => hn2 (h ▸ hi))
  have va1 : qa1 = a1 e2 := by rw [ha1]; exact (if_pos rfl).symm
  rw [← ha1]
  refine g_lvs (lv2 := [(0, .ref (a1 e)), (1, .int (nI m))]) (st2 := [.ref (a1 e2)]) (by rw [ga1 e he]) (by rw [va1]; rfl) ?_
  refine b_aret hX (some (a1 e2)) rfl hE (Or.inr ⟨_, rfl⟩) dJ7_copyOf_1904c_9 (by omega) (by omega) ?_
  subst ha1
  exact ⟨_, rfl, congrArg some (if_pos rfl).symm⟩
abbrev rm_Jx4a65c_grow_92f84 (v w : Nat) : Room := { frames := 3, cells := v, slots := w, locals := 103 }
theorem hd_Jx4a65c_grow_92f84 : yJx4a65c_grow_92f84.cls = RJx4a65c ∧ yJx4a65c_grow_92f84.cls ≠ "java/lang/invoke/MethodHandle" ∧ yJx4a65c_grow_92f84.cls ≠ "java/lang/invoke/VarHandle" ∧ (parseMethodDescriptor yJx4a65c_grow_92f84.desc).map (fun d => d.parameters.length) = some 1 := by decide +kernel
set_option maxRecDepth 100000 in
set_option maxHeartbeats 4000000 in
theorem k_Jx4a65c_grow_92f84A {D : va_G} {dT : Nat → ClassId} {Z : ZT} {K N : Nat → Nat} {I : Nat → Nat → Int32} {Rr : Nat → Nat → Option Nat} {ad : Nat → Nat} {L : List Nat} (l : Nat) (hl : l ∈ L) (hlk : K l = 3) (e : Nat) (he : e ∈ L) (hek : K e = 25) (hre : Rr l 1 = some e) (n : Nat) (hNe : N e = n) (h2 : 2 ≤ n) (h4 : n ≤ 60000) (e2 : Nat) (hn2 : e2 ∉ L) (hR2 : ∀ i ∈ L, ∀ k, Rr i k ≠ some e2) (hk2 : K e2 = 25) (hR20 : ∀ k, Rr e2 k = none) (hN2 : N e2 = n + n / 2) (kd : Nat) (C : String) (hC : (C = "[I" ∧ kd = 20) ∨ (C = "[[Z" ∧ kd = 26)) (hel : ∀ k, k < n → ∀ y, Rr e k = some y → y ∈ L ∧ K y = kd) : ∀ l8, BQ l8 yJx4a65c_grow_92f84 wsJx4a65c_grow_92f84 (rm_Jx4a65c_grow_92f84 1 (n + n / 2)) D (tyl dT) Z ad L (pf dT K N I Rr ad) [.ref (ad l), .int (nI (n + 1))] 1 (n + n / 2) (fun r u => ∃ q, u = (va_up ad e2 q, (L ++ [e2]), pf dT K N I (up2 (fun a => if a = e2 then fun k => if k < N e then Rr e k else Rr e2 k else Rr a) l 1 (some e2)) (va_up ad e2 q)) ∧ some q = r) := by
  intro l9
  refine bq_of (own := RJx4a65c) (cc := cJx4a65c_grow_92f84) (maxL := 4) (some (.array (.object "java/lang/Object"))) [(0, .ref (ad l)), (1, .int (nI (n + 1)))] (by decide) rfl rfl rfl (Nat.le_of_ble_eq_true rfl) ?_
  intro X hX hE hN hM
  have q_w1 : Cond.fieldLink RJx4a65c 9 "java/util/ArrayList" "elementData" "[Ljava/lang/Object;" ∈ wsJx4a65c_grow_92f84 := List.mem_of_getElem? (i := 1) rfl
  have q_inJx4a65c : ∀ w ∈ wsJx4a65c0, w ∈ wsJx4a65c_grow_92f84 := by decide +kernel
  refine g_aload_n hX 0 rfl dJx4a65c_grow_92f84_0 rfl ?_
  refine g_getRs (i := l) hX 3 1 q_inJx4a65c hl hlk (by decide) rfl (by decide) rfl q_w1 rfl (j := e) hre dJx4a65c_grow_92f84_1 ?_
  refine g_alen25 (i := e) hX rfl (nI n) he hek (by rw [hNe]; rfl) dJx4a65c_grow_92f84_4 ?_
  refine g_istore_n hX [(2, .int (nI n)), (0, .ref (ad l)), (1, .int (nI (n + 1)))] rfl dJx4a65c_grow_92f84_5 rfl (by decide) ?_
  refine g_iload_n hX 0 rfl dJx4a65c_grow_92f84_6 rfl ?_
  refine g_if_gt (tgt := 20) hX dJx4a65c_grow_92f84_7 (by decide) (fun c_7 => ?_) (fun c_7 => ?_)
  · refine g_iload_n hX 0 rfl dJx4a65c_grow_92f84_20 rfl ?_
    refine g_iload_n hX 2 rfl dJx4a65c_grow_92f84_21 rfl ?_
    refine g_iload_n hX 0 rfl dJx4a65c_grow_92f84_22 rfl ?_
    refine g_isub hX dJx4a65c_grow_92f84_23 ?_
    refine g_lvs (lv2 := [(2, .int (nI n)), (0, .ref (ad l)), (1, .int (nI (n + 1)))]) (st2 := [.int 1, .int (nI n)]) rfl (by rw [gr_1 (by omega)]) ?_
    refine g_iload_n hX 0 rfl dJx4a65c_grow_92f84_24 rfl ?_
    refine g_iconst hX (1) dJx4a65c_grow_92f84_25 rfl ?_
    refine g_ishr hX dJx4a65c_grow_92f84_26 ?_
    refine g_eqi (y := nI (n / 2)) (gr_h (by omega)) ?_
    refine b_callI_S hX hM [.int (nI n), .int 1, .int (nI (n / 2))] (k_J8_newLength_cabcc n h2 (by omega)) gJx4a65c_grow_92f84_J8_newLength_cabcc rfl rfl rfl hd_J8_newLength_cabcc.2 ⟨Nat.le_of_ble_eq_true rfl, Nat.le_of_ble_eq_true rfl⟩ ⟨Nat.le_of_ble_eq_true rfl, Nat.zero_le _⟩ rfl (Nat.le_of_ble_eq_true rfl) dJx4a65c_grow_92f84_27 (fun r9 ad9 L9 f9 hp9 => ?_)
    obtain ⟨he9, hr9⟩ := hp9
    cases he9
    subst hr9
    refine g_istore_n hX [(3, .int (nI (n + n / 2))), (2, .int (nI n)), (0, .ref (ad l)), (1, .int (nI (n + 1)))] rfl dJx4a65c_grow_92f84_30 rfl (by decide) ?_
    refine g_aload_n hX 2 rfl dJx4a65c_grow_92f84_31 rfl ?_
    refine g_aload_n hX 2 rfl dJx4a65c_grow_92f84_32 rfl ?_
    refine g_getRs (i := l) hX 3 1 q_inJx4a65c hl hlk (by decide) rfl (by decide) rfl q_w1 rfl (j := e) hre dJx4a65c_grow_92f84_33 ?_
    refine g_iload_n hX 0 rfl dJx4a65c_grow_92f84_36 rfl ?_
    refine b_callQ_S hX hM [.ref (ad e), .int (nI (n + n / 2))] (k_J7_copyOf_1904c e he hek e2 hn2 hR2 hk2 (n + n / 2) hN2 hR20 (by omega) (by omega) kd C hC (fun k h y hy => hel k (by omega) y hy)) gJx4a65c_grow_92f84_J7_copyOf_1904c rfl rfl rfl hd_J7_copyOf_1904c.2 ⟨Nat.le_of_ble_eq_true rfl, Nat.le_of_ble_eq_true rfl⟩ ⟨Nat.le_of_ble_eq_true rfl, (by show 0 + (n + n / 2) ≤ n + n / 2; omega)⟩ rfl (Nat.le_of_ble_eq_true rfl) dJx4a65c_grow_92f84_37 (fun r9 ad9 L9 f9 hp9 => ?_)
    obtain ⟨qa1, he9, hr9⟩ := hp9
    cases he9
    subst hr9
    obtain ⟨a1, ha1⟩ : ∃ z9, z9 = va_up ad e2 qa1 := ⟨_, rfl⟩
    have ga1 : ∀ i, i ∈ L → a1 i = ad i := fun i hi => by rw [ha1]; exact va_up_ne _ _ (fun h => hn2 (h ▸ hi))
    have va1 : qa1 = a1 e2 := by rw [ha1]; exact (if_pos rfl).symm
    rw [← ha1]
    refine g_lvs (lv2 := [(3, .int (nI (n + n / 2))), (2, .int (nI n)), (0, .ref (a1 l)), (1, .int (nI (n + 1)))]) (st2 := [.ref (a1 e2), .ref (a1 l)]) (by rw [ga1 l hl]) (by rw [ga1 l hl, va1]; rfl) ?_
    refine g_dupx1 hX dJx4a65c_grow_92f84_40 rfl rfl ?_
    refine g_putR hX (i := l) 3 1 q_inJx4a65c (List.mem_append_left _ hl) hlk (by decide) rfl (by decide) rfl q_w1 rfl tyJx4a65c_ok nmJx4a65c rfl (ty := .array (.object "java/lang/Object")) (by decide +kernel) (x := (some e2)) rfl rfl rfl dJx4a65c_grow_92f84_41 ?_
    refine b_aret hX (some (a1 e2)) rfl hE (Or.inr ⟨_, rfl⟩) dJx4a65c_grow_92f84_44 (by omega) (by omega) ?_
    subst ha1
    exact ⟨_, rfl, congrArg some (if_pos rfl).symm⟩
  · exact absurd (show nI 0 < nI n from nI_lt (by omega) (by omega)) c_7
set_option maxRecDepth 100000 in
set_option maxHeartbeats 4000000 in
theorem k_Jx4a65c_grow_92f84B {D : va_G} {dT : Nat → ClassId} {Z : ZT} {K N : Nat → Nat} {I : Nat → Nat → Int32} {Rr : Nat → Nat → Option Nat} {ad : Nat → Nat} {L : List Nat} (l : Nat) (hl : l ∈ L) (hlk : K l = 3) (zn : Nat) (hz : ad zn = Z.1) (hre : Rr l 1 = some zn) (e2 : Nat) (hn2 : e2 ∉ L) (hR2 : ∀ i ∈ L, ∀ k, Rr i k ≠ some e2) (hk2 : K e2 = 25) (hR20 : ∀ k, Rr e2 k = none) (hN2 : N e2 = 10) : ∀ l8, BQ l8 yJx4a65c_grow_92f84 wsJx4a65c_grow_92f84 (rm_Jx4a65c_grow_92f84 1 10) D (tyl dT) Z ad L (pf dT K N I Rr ad) [.ref (ad l), .int (nI 1)] 1 10 (fun r u => ∃ q, u = (va_up ad e2 q, (L ++ [e2]), pf dT K N I (up2 Rr l 1 (some e2)) (va_up ad e2 q)) ∧ some q = r) := by
  intro l9
  refine bq_of (own := RJx4a65c) (cc := cJx4a65c_grow_92f84) (maxL := 4) (some (.array (.object "java/lang/Object"))) [(0, .ref (ad l)), (1, .int (nI 1))] (by decide) rfl rfl rfl (Nat.le_of_ble_eq_true rfl) ?_
  intro X hX hE hN hM
  have q_w1 : Cond.fieldLink RJx4a65c 9 "java/util/ArrayList" "elementData" "[Ljava/lang/Object;" ∈ wsJx4a65c_grow_92f84 := List.mem_of_getElem? (i := 1) rfl
  have q_inJx4a65c : ∀ w ∈ wsJx4a65c0, w ∈ wsJx4a65c_grow_92f84 := by decide +kernel
  have q_w2 : Cond.fieldLink RJx4a65c 39 "java/util/ArrayList" "DEFAULTCAPACITY_EMPTY_ELEMENTDATA" "[Ljava/lang/Object;" ∈ wsJx4a65c_grow_92f84 := List.mem_of_getElem? (i := 2) rfl
  have q_w3 : Cond.methodLink RJx4a65c 79 Lib.Math.max.name ∈ wsJx4a65c_grow_92f84 := List.mem_of_getElem? (i := 3) rfl
  have q_w4 : Cond.static Lib.Math.max.name ∈ wsJx4a65c_grow_92f84 := List.mem_of_getElem? (i := 4) rfl
  have q_w5 : Cond.initialized "java/lang/Math" ∈ wsJx4a65c_grow_92f84 := List.mem_of_getElem? (i := 5) rfl
  have q_w6 : Cond.code Lib.Math.max.name Lib.Math.max.code 2 (some .int) ∈ wsJx4a65c_grow_92f84 := List.mem_of_getElem? (i := 6) rfl
  have q_w7 : Cond.classLink RJx4a65c 7 "java/lang/Object" ∈ wsJx4a65c_grow_92f84 := List.mem_of_getElem? (i := 7) rfl
  refine g_aload_n hX 0 rfl dJx4a65c_grow_92f84_0 rfl ?_
  refine g_getRs (i := l) hX 3 1 q_inJx4a65c hl hlk (by decide) rfl (by decide) rfl q_w1 rfl (j := zn) hre dJx4a65c_grow_92f84_1 ?_
  rw [hz]
  refine b_tlen hX hM dJx4a65c_grow_92f84_4 ?_
  refine g_istore_n hX [(2, .int 0), (0, .ref (ad l)), (1, .int (nI 1))] rfl dJx4a65c_grow_92f84_5 rfl (by decide) ?_
  refine g_iload_n hX 0 rfl dJx4a65c_grow_92f84_6 rfl ?_
  refine g_if_gt (tgt := 20) hX dJx4a65c_grow_92f84_7 (by decide) (fun c_7 => ?_) (fun c_7 => ?_)
  · first | exact absurd c_7 (by decide) | exact absurd (by decide) c_7
  · refine g_aload_n hX 1 rfl dJx4a65c_grow_92f84_10 rfl ?_
    refine g_getRs (i := l) hX 3 1 q_inJx4a65c hl hlk (by decide) rfl (by decide) rfl q_w1 rfl (j := zn) hre dJx4a65c_grow_92f84_11 ?_
    rw [hz]
    refine b_getsZ hX hM q_w2 dJx4a65c_grow_92f84_14 ?_
    refine g_acmp_eq (rx := some Z.1) (ry := some Z.1) (tgt := 45) hX dJx4a65c_grow_92f84_17 (by decide) (fun c_17 => ?_) (fun c_17 => ?_)
    · refine g_aload_n hX 1 rfl dJx4a65c_grow_92f84_45 rfl ?_
      refine g_bipush hX (10) dJx4a65c_grow_92f84_46 rfl ?_
      refine g_iload_n hX 2 rfl dJx4a65c_grow_92f84_48 rfl ?_
      refine g_mmax hX q_w3 q_w4 q_w5 q_w6 (Nat.le_of_ble_eq_true rfl) (Nat.le_of_ble_eq_true rfl) (Nat.le_of_ble_eq_true rfl) (Nat.le_of_ble_eq_true rfl) dJx4a65c_grow_92f84_49 ?_
      refine g_eqi (y := 10) (by decide) ?_
      refine g_newR25 hX e2 hn2 hR2 10 hk2 hN2 hR20 (x := 10) rfl (by decide) q_w7 (hM.ao (by decide)) (Nat.le_of_ble_eq_true rfl) (Nat.le_of_ble_eq_true rfl) dJx4a65c_grow_92f84_52 (fun qn1 => ?_)
      obtain ⟨a2, ha2⟩ : ∃ z9, z9 = va_up ad e2 qn1 := ⟨_, rfl⟩
      have ga2 : ∀ i, i ∈ L → a2 i = ad i := fun i hi => by rw [ha2]; exact va_up_ne _ _ (fun h => hn2 (h ▸ hi))
      rw [← ha2]
      refine g_lvs (lv2 := [(2, .int 0), (0, .ref (a2 l)), (1, .int (nI 1))]) (st2 := [.ref (a2 e2), .ref (a2 l)]) (by rw [ga2 l hl]) (by rw [ga2 l hl]) ?_
      refine g_dupx1 hX dJx4a65c_grow_92f84_55 rfl rfl ?_
      refine g_putR hX (i := l) 3 1 q_inJx4a65c (List.mem_append_left _ hl) hlk (by decide) rfl (by decide) rfl q_w1 rfl tyJx4a65c_ok nmJx4a65c rfl (ty := .array (.object "java/lang/Object")) (by decide +kernel) (x := (some e2)) rfl rfl rfl dJx4a65c_grow_92f84_56 ?_
      refine b_aret hX (some (a2 e2)) rfl hE (Or.inr ⟨_, rfl⟩) dJx4a65c_grow_92f84_59 (by omega) (by omega) ?_
      subst ha2
      exact ⟨_, rfl, congrArg some (if_pos rfl).symm⟩
    · exact absurd rfl c_17
abbrev rm_Jx4a65c_grow_d5877 (v w : Nat) : Room := { frames := 4, cells := v, slots := w, locals := 126 }
theorem hd_Jx4a65c_grow_d5877 : yJx4a65c_grow_d5877.cls = RJx4a65c ∧ yJx4a65c_grow_d5877.cls ≠ "java/lang/invoke/MethodHandle" ∧ yJx4a65c_grow_d5877.cls ≠ "java/lang/invoke/VarHandle" ∧ (parseMethodDescriptor yJx4a65c_grow_d5877.desc).map (fun d => d.parameters.length) = some 0 := by decide +kernel
set_option maxRecDepth 100000 in
set_option maxHeartbeats 4000000 in
theorem k_Jx4a65c_grow_d5877A {D : va_G} {dT : Nat → ClassId} {Z : ZT} {K N : Nat → Nat} {I : Nat → Nat → Int32} {Rr : Nat → Nat → Option Nat} {ad : Nat → Nat} {L : List Nat} (l : Nat) (hl : l ∈ L) (hlk : K l = 3) (e : Nat) (he : e ∈ L) (hek : K e = 25) (hre : Rr l 1 = some e) (n : Nat) (hNe : N e = n) (h2 : 2 ≤ n) (h4 : n ≤ 60000) (e2 : Nat) (hn2 : e2 ∉ L) (hR2 : ∀ i ∈ L, ∀ k, Rr i k ≠ some e2) (hk2 : K e2 = 25) (hR20 : ∀ k, Rr e2 k = none) (hN2 : N e2 = n + n / 2) (kd : Nat) (C : String) (hC : (C = "[I" ∧ kd = 20) ∨ (C = "[[Z" ∧ kd = 26)) (hel : ∀ k, k < n → ∀ y, Rr e k = some y → y ∈ L ∧ K y = kd) (hs : I l 2 = nI n) : ∀ l8, BQ l8 yJx4a65c_grow_d5877 wsJx4a65c_grow_d5877 (rm_Jx4a65c_grow_d5877 1 (n + n / 2)) D (tyl dT) Z ad L (pf dT K N I Rr ad) [.ref (ad l)] 1 (n + n / 2) (fun r u => ∃ q, u = (va_up ad e2 q, (L ++ [e2]), pf dT K N I (up2 (fun a => if a = e2 then fun k => if k < N e then Rr e k else Rr e2 k else Rr a) l 1 (some e2)) (va_up ad e2 q)) ∧ some q = r) := by
  intro l9
  refine bq_of (own := RJx4a65c) (cc := cJx4a65c_grow_d5877) (maxL := 1) (some (.array (.object "java/lang/Object"))) [(0, .ref (ad l))] (by decide) rfl rfl rfl (Nat.le_of_ble_eq_true rfl) ?_
  intro X hX hE hN hM
  have q_w1 : Cond.fieldLink RJx4a65c 48 "java/util/ArrayList" "size" "I" ∈ wsJx4a65c_grow_d5877 := List.mem_of_getElem? (i := 1) rfl
  have q_inJx4a65c : ∀ w ∈ wsJx4a65c0, w ∈ wsJx4a65c_grow_d5877 := by decide +kernel
  refine g_aload_n hX 0 rfl dJx4a65c_grow_d5877_0 rfl ?_
  refine g_aload_n hX 0 rfl dJx4a65c_grow_d5877_1 rfl ?_
  refine g_getI (i := l) hX 3 2 q_inJx4a65c hl hlk (by decide) rfl (by decide) rfl q_w1 rfl dJx4a65c_grow_d5877_2 ?_
  refine g_eqi (y := (nI n)) hs ?_
  refine g_iconst hX (1) dJx4a65c_grow_d5877_5 rfl ?_
  refine g_iadd hX dJx4a65c_grow_d5877_6 ?_
  refine g_eqi (y := nI (n + 1)) (nI_1 n) ?_
  refine b_callQ_V hX hM (b := l) [.int (nI (n + 1))] hl (pf_obj hlk (by decide)) rfl (k_Jx4a65c_grow_92f84A l hl hlk e he hek hre n hNe h2 h4 e2 hn2 hR2 hk2 hR20 hN2 kd C hC hel) gJx4a65c_grow_d5877_Jx4a65c_grow_92f84 rfl rfl rfl hd_Jx4a65c_grow_92f84 ⟨Nat.le_of_ble_eq_true rfl, Nat.le_of_ble_eq_true rfl⟩ ⟨Nat.le_of_ble_eq_true rfl, (by show 0 + (n + n / 2) ≤ n + n / 2; omega)⟩ rfl (Nat.le_of_ble_eq_true rfl) dJx4a65c_grow_d5877_7 (fun r9 ad9 L9 f9 hp9 => ?_)
  obtain ⟨qa1, he9, hr9⟩ := hp9
  cases he9
  subst hr9
  obtain ⟨a1, ha1⟩ : ∃ z9, z9 = va_up ad e2 qa1 := ⟨_, rfl⟩
  have ga1 : ∀ i, i ∈ L → a1 i = ad i := fun i hi => by rw [ha1]; exact va_up_ne _ _ (fun h => hn2 (h ▸ hi))
  have va1 : qa1 = a1 e2 := by rw [ha1]; exact (if_pos rfl).symm
  rw [← ha1]
  refine g_lvs (lv2 := [(0, .ref (a1 l))]) (st2 := [.ref (a1 e2)]) (by rw [ga1 l hl]) (by rw [va1]; rfl) ?_
  refine b_aret hX (some (a1 e2)) rfl hE (Or.inr ⟨_, rfl⟩) dJx4a65c_grow_d5877_10 (by omega) (by omega) ?_
  subst ha1
  exact ⟨_, rfl, congrArg some (if_pos rfl).symm⟩
set_option maxRecDepth 100000 in
set_option maxHeartbeats 4000000 in
theorem k_Jx4a65c_grow_d5877B {D : va_G} {dT : Nat → ClassId} {Z : ZT} {K N : Nat → Nat} {I : Nat → Nat → Int32} {Rr : Nat → Nat → Option Nat} {ad : Nat → Nat} {L : List Nat} (l : Nat) (hl : l ∈ L) (hlk : K l = 3) (zn : Nat) (hz : ad zn = Z.1) (hre : Rr l 1 = some zn) (e2 : Nat) (hn2 : e2 ∉ L) (hR2 : ∀ i ∈ L, ∀ k, Rr i k ≠ some e2) (hk2 : K e2 = 25) (hR20 : ∀ k, Rr e2 k = none) (hN2 : N e2 = 10) (hs : I l 2 = 0) : ∀ l8, BQ l8 yJx4a65c_grow_d5877 wsJx4a65c_grow_d5877 (rm_Jx4a65c_grow_d5877 1 10) D (tyl dT) Z ad L (pf dT K N I Rr ad) [.ref (ad l)] 1 10 (fun r u => ∃ q, u = (va_up ad e2 q, (L ++ [e2]), pf dT K N I (up2 Rr l 1 (some e2)) (va_up ad e2 q)) ∧ some q = r) := by
  intro l9
  refine bq_of (own := RJx4a65c) (cc := cJx4a65c_grow_d5877) (maxL := 1) (some (.array (.object "java/lang/Object"))) [(0, .ref (ad l))] (by decide) rfl rfl rfl (Nat.le_of_ble_eq_true rfl) ?_
  intro X hX hE hN hM
  have q_w1 : Cond.fieldLink RJx4a65c 48 "java/util/ArrayList" "size" "I" ∈ wsJx4a65c_grow_d5877 := List.mem_of_getElem? (i := 1) rfl
  have q_inJx4a65c : ∀ w ∈ wsJx4a65c0, w ∈ wsJx4a65c_grow_d5877 := by decide +kernel
  refine g_aload_n hX 0 rfl dJx4a65c_grow_d5877_0 rfl ?_
  refine g_aload_n hX 0 rfl dJx4a65c_grow_d5877_1 rfl ?_
  refine g_getI (i := l) hX 3 2 q_inJx4a65c hl hlk (by decide) rfl (by decide) rfl q_w1 rfl dJx4a65c_grow_d5877_2 ?_
  refine g_eqi (y := 0) hs ?_
  refine g_iconst hX (1) dJx4a65c_grow_d5877_5 rfl ?_
  refine g_iadd hX dJx4a65c_grow_d5877_6 ?_
  refine g_eqi (y := nI 1) (by decide) ?_
  refine b_callQ_V hX hM (b := l) [.int (nI 1)] hl (pf_obj hlk (by decide)) rfl (k_Jx4a65c_grow_92f84B l hl hlk zn hz hre e2 hn2 hR2 hk2 hR20 hN2) gJx4a65c_grow_d5877_Jx4a65c_grow_92f84 rfl rfl rfl hd_Jx4a65c_grow_92f84 ⟨Nat.le_of_ble_eq_true rfl, Nat.le_of_ble_eq_true rfl⟩ ⟨Nat.le_of_ble_eq_true rfl, Nat.le_of_ble_eq_true rfl⟩ rfl (Nat.le_of_ble_eq_true rfl) dJx4a65c_grow_d5877_7 (fun r9 ad9 L9 f9 hp9 => ?_)
  obtain ⟨qa1, he9, hr9⟩ := hp9
  cases he9
  subst hr9
  obtain ⟨a1, ha1⟩ : ∃ z9, z9 = va_up ad e2 qa1 := ⟨_, rfl⟩
  have ga1 : ∀ i, i ∈ L → a1 i = ad i := fun i hi => by rw [ha1]; exact va_up_ne _ _ (fun h => hn2 (h ▸ hi))
  have va1 : qa1 = a1 e2 := by rw [ha1]; exact (if_pos rfl).symm
  rw [← ha1]
  refine g_lvs (lv2 := [(0, .ref (a1 l))]) (st2 := [.ref (a1 e2)]) (by rw [ga1 l hl]) (by rw [va1]; rfl) ?_
  refine b_aret hX (some (a1 e2)) rfl hE (Or.inr ⟨_, rfl⟩) dJx4a65c_grow_d5877_10 (by omega) (by omega) ?_
  subst ha1
  exact ⟨_, rfl, congrArg some (if_pos rfl).symm⟩
abbrev rm_Jx4a65c_add_72be8 (v w : Nat) : Room := { frames := 5, cells := v, slots := w, locals := 146 }
theorem hd_Jx4a65c_add_72be8 : yJx4a65c_add_72be8.cls = RJx4a65c ∧ yJx4a65c_add_72be8.cls ≠ "java/lang/invoke/MethodHandle" ∧ yJx4a65c_add_72be8.cls ≠ "java/lang/invoke/VarHandle" ∧ (parseMethodDescriptor yJx4a65c_add_72be8.desc).map (fun d => d.parameters.length) = some 3 := by decide +kernel
set_option maxRecDepth 100000 in
set_option maxHeartbeats 4000000 in
theorem k_Jx4a65c_add_72be8A {D : va_G} {dT : Nat → ClassId} {Z : ZT} {K N : Nat → Nat} {I : Nat → Nat → Int32} {Rr : Nat → Nat → Option Nat} {ad : Nat → Nat} {L : List Nat} (l : Nat) (hl : l ∈ L) (hlk : K l = 3) (e : Nat) (he : e ∈ L) (hek : K e = 25) (hre : Rr l 1 = some e) (n : Nat) (hNe : N e = n) (h2 : 2 ≤ n) (h4 : n ≤ 60000) (e2 : Nat) (hn2 : e2 ∉ L) (hR2 : ∀ i ∈ L, ∀ k, Rr i k ≠ some e2) (hk2 : K e2 = 25) (hR20 : ∀ k, Rr e2 k = none) (hN2 : N e2 = n + n / 2) (kd : Nat) (C : String) (hC : (C = "[I" ∧ kd = 20) ∨ (C = "[[Z" ∧ kd = 26)) (hel : ∀ k, k < n → ∀ y, Rr e k = some y → y ∈ L ∧ K y = kd) (hs : I l 2 = nI n) (x : Nat) (hxL : x ∈ L) (hkx : K x = 20 ∨ K x = 26) : ∀ l8, BV l8 yJx4a65c_add_72be8 wsJx4a65c_add_72be8 (rm_Jx4a65c_add_72be8 1 (n + n / 2)) D (tyl dT) Z ad L (pf dT K N I Rr ad) [.ref (ad l), .ref (ad x), .ref (ad e), .int (nI n)] 1 (n + n / 2) (fun u => ∃ q, u = (va_up ad e2 q, (L ++ [e2]), pf dT K N (up2 I l 2 (nI (n + 1))) (up2 (up2 (fun a => if a = e2 then fun k => if k < N e then Rr e k else Rr e2 k else Rr a) l 1 (some e2)) e2 n (some x)) (va_up ad e2 q))) := by
  intro l9
  refine bv_of (own := RJx4a65c) (cc := cJx4a65c_add_72be8) (maxL := 4) [(0, .ref (ad l)), (1, .ref (ad x)), (2, .ref (ad e)), (3, .int (nI n))] (by decide) rfl rfl rfl (Nat.le_of_ble_eq_true rfl) ?_
  intro X hX hE hN hM
  have q_w1 : Cond.fieldLink RJx4a65c 48 "java/util/ArrayList" "size" "I" ∈ wsJx4a65c_add_72be8 := List.mem_of_getElem? (i := 1) rfl
  have q_inJx4a65c : ∀ w ∈ wsJx4a65c0, w ∈ wsJx4a65c_add_72be8 := by decide +kernel
  refine g_iload_n hX 3 rfl dJx4a65c_add_72be8_0 rfl ?_
  refine g_aload_n hX 2 rfl dJx4a65c_add_72be8_1 rfl ?_
  refine g_alen25 (i := e) hX rfl (nI n) he hek (by rw [hNe]; rfl) dJx4a65c_add_72be8_2 ?_
  refine g_icmp_ne (tgt := 11) hX dJx4a65c_add_72be8_3 (by decide) (fun c_3 => ?_) (fun c_3 => ?_)
  · exact absurd rfl c_3
  · have c_3 : n = n := (nI_eq (a := n) (b := n) (by omega) (by omega)).mp c_3
    refine g_aload_n hX 0 rfl dJx4a65c_add_72be8_6 rfl ?_
    refine b_callQ_V hX hM (b := l) [] hl (pf_obj hlk (by decide)) rfl (k_Jx4a65c_grow_d5877A l hl hlk e he hek hre n hNe h2 h4 e2 hn2 hR2 hk2 hR20 hN2 kd C hC hel hs) gJx4a65c_add_72be8_Jx4a65c_grow_d5877 rfl rfl rfl hd_Jx4a65c_grow_d5877 ⟨Nat.le_of_ble_eq_true rfl, Nat.le_of_ble_eq_true rfl⟩ ⟨Nat.le_of_ble_eq_true rfl, (by show 0 + (n + n / 2) ≤ n + n / 2; omega)⟩ rfl (Nat.le_of_ble_eq_true rfl) dJx4a65c_add_72be8_7 (fun r9 ad9 L9 f9 hp9 => ?_)
    obtain ⟨qa1, he9, hr9⟩ := hp9
    cases he9
    subst hr9
    obtain ⟨a1, ha1⟩ : ∃ z9, z9 = va_up ad e2 qa1 := ⟨_, rfl⟩
    have ga1 : ∀ i, i ∈ L → a1 i = ad i := fun i hi => by rw [ha1]; exact va_up_ne _ _ (fun h => hn2 (h ▸ hi))
    have va1 : qa1 = a1 e2 := by rw [ha1]; exact (if_pos rfl).symm
    rw [← ha1]
    refine g_lvs (lv2 := [(0, .ref (a1 l)), (1, .ref (a1 x)), (2, .ref (a1 e)), (3, .int (nI n))]) (st2 := [.ref (a1 e2)]) (by rw [ga1 l hl, ga1 x hxL, ga1 e he]) (by rw [va1]; rfl) ?_
    refine g_astore_n hX [(2, .ref (a1 e2)), (0, .ref (a1 l)), (1, .ref (a1 x)), (3, .int (nI n))] rfl dJx4a65c_add_72be8_10 rfl (by decide) ?_
    refine g_aload_n hX 0 rfl dJx4a65c_add_72be8_11 rfl ?_
    refine g_iload_n hX 3 rfl dJx4a65c_add_72be8_12 rfl ?_
    refine g_aload_n hX 2 rfl dJx4a65c_add_72be8_13 rfl ?_
    refine h_ast25 (i := e2)  (v := x) hX hM n rfl (by omega) (by omega) (List.mem_append_right _ (List.mem_singleton.mpr rfl)) hk2 (List.mem_append_left _ hxL) hkx dJx4a65c_add_72be8_14 ?_
    refine g_aload_n hX 1 rfl dJx4a65c_add_72be8_15 rfl ?_
    refine g_iload_n hX 3 rfl dJx4a65c_add_72be8_16 rfl ?_
    refine g_iconst hX (1) dJx4a65c_add_72be8_17 rfl ?_
    refine g_iadd hX dJx4a65c_add_72be8_18 ?_
    refine g_eqi (y := nI (n + 1)) (nI_1 n) ?_
    refine g_putI hX (i := l) 3 2 q_inJx4a65c (List.mem_append_left _ hl) hlk (by decide) rfl (by decide) rfl q_w1 rfl tyJx4a65c_ok nmJx4a65c rfl (ty := .int) (by decide +kernel) rfl rfl dJx4a65c_add_72be8_19 ?_
    refine b_vret hX hE dJx4a65c_add_72be8_22 (by omega) (by omega) ?_
    subst ha1
    exact ⟨_, rfl⟩
set_option maxRecDepth 100000 in
set_option maxHeartbeats 4000000 in
theorem k_Jx4a65c_add_72be8B {D : va_G} {dT : Nat → ClassId} {Z : ZT} {K N : Nat → Nat} {I : Nat → Nat → Int32} {Rr : Nat → Nat → Option Nat} {ad : Nat → Nat} {L : List Nat} (l : Nat) (hl : l ∈ L) (hlk : K l = 3) (zn : Nat) (hz : ad zn = Z.1) (hre : Rr l 1 = some zn) (e2 : Nat) (hn2 : e2 ∉ L) (hR2 : ∀ i ∈ L, ∀ k, Rr i k ≠ some e2) (hk2 : K e2 = 25) (hR20 : ∀ k, Rr e2 k = none) (hN2 : N e2 = 10) (hs : I l 2 = 0) (x : Nat) (hxL : x ∈ L) (hkx : K x = 20 ∨ K x = 26) : ∀ l8, BV l8 yJx4a65c_add_72be8 wsJx4a65c_add_72be8 (rm_Jx4a65c_add_72be8 1 10) D (tyl dT) Z ad L (pf dT K N I Rr ad) [.ref (ad l), .ref (ad x), .ref Z.1, .int 0] 1 10 (fun u => ∃ q, u = (va_up ad e2 q, (L ++ [e2]), pf dT K N (up2 I l 2 (nI 1)) (up2 (up2 Rr l 1 (some e2)) e2 0 (some x)) (va_up ad e2 q))) := by
  intro l9
  refine bv_of (own := RJx4a65c) (cc := cJx4a65c_add_72be8) (maxL := 4) [(0, .ref (ad l)), (1, .ref (ad x)), (2, .ref Z.1), (3, .int 0)] (by decide) rfl rfl rfl (Nat.le_of_ble_eq_true rfl) ?_
  intro X hX hE hN hM
  have q_w1 : Cond.fieldLink RJx4a65c 48 "java/util/ArrayList" "size" "I" ∈ wsJx4a65c_add_72be8 := List.mem_of_getElem? (i := 1) rfl
  have q_inJx4a65c : ∀ w ∈ wsJx4a65c0, w ∈ wsJx4a65c_add_72be8 := by decide +kernel
  refine g_iload_n hX 3 rfl dJx4a65c_add_72be8_0 rfl ?_
  refine g_aload_n hX 2 rfl dJx4a65c_add_72be8_1 rfl ?_
  refine b_tlen hX hM dJx4a65c_add_72be8_2 ?_
  refine g_icmp_ne (tgt := 11) hX dJx4a65c_add_72be8_3 (by decide) (fun c_3 => ?_) (fun c_3 => ?_)
  · first | exact absurd c_3 (by decide) | exact absurd (by decide) c_3
  · refine g_aload_n hX 0 rfl dJx4a65c_add_72be8_6 rfl ?_
    refine b_callQ_V hX hM (b := l) [] hl (pf_obj hlk (by decide)) rfl (k_Jx4a65c_grow_d5877B l hl hlk zn hz hre e2 hn2 hR2 hk2 hR20 hN2 hs) gJx4a65c_add_72be8_Jx4a65c_grow_d5877 rfl rfl rfl hd_Jx4a65c_grow_d5877 ⟨Nat.le_of_ble_eq_true rfl, Nat.le_of_ble_eq_true rfl⟩ ⟨Nat.le_of_ble_eq_true rfl, Nat.le_of_ble_eq_true rfl⟩ rfl (Nat.le_of_ble_eq_true rfl) dJx4a65c_add_72be8_7 (fun r9 ad9 L9 f9 hp9 => ?_)
    obtain ⟨qa1, he9, hr9⟩ := hp9
    cases he9
    subst hr9
    obtain ⟨a1, ha1⟩ : ∃ z9, z9 = va_up ad e2 qa1 := ⟨_, rfl⟩
    have ga1 : ∀ i, i ∈ L → a1 i = ad i := fun i hi => by rw [ha1]; exact va_up_ne _ _ (fun h => hn2 (h ▸ hi))
    have va1 : qa1 = a1 e2 := by rw [ha1]; exact (if_pos rfl).symm
    rw [← ha1]
    refine g_lvs (lv2 := [(0, .ref (a1 l)), (1, .ref (a1 x)), (2, .ref Z.1), (3, .int 0)]) (st2 := [.ref (a1 e2)]) (by rw [ga1 l hl, ga1 x hxL]) (by rw [va1]; rfl) ?_
    refine g_astore_n hX [(2, .ref (a1 e2)), (0, .ref (a1 l)), (1, .ref (a1 x)), (3, .int 0)] rfl dJx4a65c_add_72be8_10 rfl (by decide) ?_
    refine g_aload_n hX 0 rfl dJx4a65c_add_72be8_11 rfl ?_
    refine g_iload_n hX 3 rfl dJx4a65c_add_72be8_12 rfl ?_
    refine g_aload_n hX 2 rfl dJx4a65c_add_72be8_13 rfl ?_
    refine h_ast25 (i := e2)  (v := x) hX hM 0 rfl (by omega) (by omega) (List.mem_append_right _ (List.mem_singleton.mpr rfl)) hk2 (List.mem_append_left _ hxL) hkx dJx4a65c_add_72be8_14 ?_
    refine g_aload_n hX 1 rfl dJx4a65c_add_72be8_15 rfl ?_
    refine g_iload_n hX 3 rfl dJx4a65c_add_72be8_16 rfl ?_
    refine g_iconst hX (1) dJx4a65c_add_72be8_17 rfl ?_
    refine g_iadd hX dJx4a65c_add_72be8_18 ?_
    refine g_eqi (y := nI 1) (by decide) ?_
    refine g_putI hX (i := l) 3 2 q_inJx4a65c (List.mem_append_left _ hl) hlk (by decide) rfl (by decide) rfl q_w1 rfl tyJx4a65c_ok nmJx4a65c rfl (ty := .int) (by decide +kernel) rfl rfl dJx4a65c_add_72be8_19 ?_
    refine b_vret hX hE dJx4a65c_add_72be8_22 (by omega) (by omega) ?_
    subst ha1
    exact ⟨_, rfl⟩
set_option maxRecDepth 100000 in
set_option maxHeartbeats 4000000 in
theorem k_Jx4a65c_add_72be8R {D : va_G} {dT : Nat → ClassId} {Z : ZT} {K N : Nat → Nat} {I : Nat → Nat → Int32} {Rr : Nat → Nat → Option Nat} {ad : Nat → Nat} {L : List Nat} (l : Nat) (hl : l ∈ L) (hlk : K l = 3) (e : Nat) (he : e ∈ L) (hek : K e = 25) (hre : Rr l 1 = some e) (s : Nat) (hse : s ≤ N e) (h31 : N e < 2 ^ 31) (hs9 : s < N e) (x : Nat) (hxL : x ∈ L) (hkx : K x = 20 ∨ K x = 26) : ∀ l8, BV l8 yJx4a65c_add_72be8 wsJx4a65c_add_72be8 (rm_Jx4a65c_add_72be8 0 0) D (tyl dT) Z ad L (pf dT K N I Rr ad) [.ref (ad l), .ref (ad x), .ref (ad e), .int (nI s)] 0 0 (fun u => u = (ad, L, pf dT K N (up2 I l 2 (nI (s + 1))) (up2 Rr e s (some x)) ad)) := by
  intro l9
  refine bv_of (own := RJx4a65c) (cc := cJx4a65c_add_72be8) (maxL := 4) [(0, .ref (ad l)), (1, .ref (ad x)), (2, .ref (ad e)), (3, .int (nI s))] (by decide) rfl rfl rfl (Nat.le_of_ble_eq_true rfl) ?_
  intro X hX hE hN hM
  have q_w1 : Cond.fieldLink RJx4a65c 48 "java/util/ArrayList" "size" "I" ∈ wsJx4a65c_add_72be8 := List.mem_of_getElem? (i := 1) rfl
  have q_inJx4a65c : ∀ w ∈ wsJx4a65c0, w ∈ wsJx4a65c_add_72be8 := by decide +kernel
  refine g_iload_n hX 3 rfl dJx4a65c_add_72be8_0 rfl ?_
  refine g_aload_n hX 2 rfl dJx4a65c_add_72be8_1 rfl ?_
  refine g_alen25 (i := e) hX rfl (nI (N e)) he hek rfl dJx4a65c_add_72be8_2 ?_
  refine g_icmp_ne (tgt := 11) hX dJx4a65c_add_72be8_3 (by decide) (fun c_3 => ?_) (fun c_3 => ?_)
  · have c_3 : ¬ s = (N e) := fun h9 => c_3 ((nI_eq (a := s) (b := (N e)) (by omega) (by omega)).mpr h9)
    refine g_aload_n hX 2 rfl dJx4a65c_add_72be8_11 rfl ?_
    refine g_iload_n hX 3 rfl dJx4a65c_add_72be8_12 rfl ?_
    refine g_aload_n hX 1 rfl dJx4a65c_add_72be8_13 rfl ?_
    refine h_ast25 (i := e)  (v := x) hX hM s rfl hs9 h31 he hek hxL hkx dJx4a65c_add_72be8_14 ?_
    refine g_aload_n hX 0 rfl dJx4a65c_add_72be8_15 rfl ?_
    refine g_iload_n hX 3 rfl dJx4a65c_add_72be8_16 rfl ?_
    refine g_iconst hX (1) dJx4a65c_add_72be8_17 rfl ?_
    refine g_iadd hX dJx4a65c_add_72be8_18 ?_
    refine g_eqi (y := nI (s + 1)) (nI_1 s) ?_
    refine g_putI hX (i := l) 3 2 q_inJx4a65c hl hlk (by decide) rfl (by decide) rfl q_w1 rfl tyJx4a65c_ok nmJx4a65c rfl (ty := .int) (by decide +kernel) rfl rfl dJx4a65c_add_72be8_19 ?_
    refine b_vret hX hE dJx4a65c_add_72be8_22 (by omega) (by omega) ?_
    exact rfl
  · exact absurd ((nI_eq (by omega) h31).mp c_3) (by omega)
abbrev rm_Jx4a65c_add_9ea2d (v w : Nat) : Room := { frames := 6, cells := v, slots := w, locals := 169 }
theorem hd_Jx4a65c_add_9ea2d : yJx4a65c_add_9ea2d.cls = RJx4a65c ∧ yJx4a65c_add_9ea2d.cls ≠ "java/lang/invoke/MethodHandle" ∧ yJx4a65c_add_9ea2d.cls ≠ "java/lang/invoke/VarHandle" ∧ (parseMethodDescriptor yJx4a65c_add_9ea2d.desc).map (fun d => d.parameters.length) = some 1 := by decide +kernel
set_option maxRecDepth 100000 in
set_option maxHeartbeats 4000000 in
theorem k_Jx4a65c_add_9ea2dA {D : va_G} {dT : Nat → ClassId} {Z : ZT} {K N : Nat → Nat} {I : Nat → Nat → Int32} {Rr : Nat → Nat → Option Nat} {ad : Nat → Nat} {L : List Nat} (l : Nat) (hl : l ∈ L) (hlk : K l = 3) (e : Nat) (he : e ∈ L) (hek : K e = 25) (hre : Rr l 1 = some e) (n : Nat) (hNe : N e = n) (h2 : 2 ≤ n) (h4 : n ≤ 60000) (e2 : Nat) (hn2 : e2 ∉ L) (hR2 : ∀ i ∈ L, ∀ k, Rr i k ≠ some e2) (hk2 : K e2 = 25) (hR20 : ∀ k, Rr e2 k = none) (hN2 : N e2 = n + n / 2) (kd : Nat) (C : String) (hC : (C = "[I" ∧ kd = 20) ∨ (C = "[[Z" ∧ kd = 26)) (hel : ∀ k, k < n → ∀ y, Rr e k = some y → y ∈ L ∧ K y = kd) (hs : I l 2 = nI n) (x : Nat) (hxL : x ∈ L) (hkx : K x = 20 ∨ K x = 26) : ∀ l8, BI l8 yJx4a65c_add_9ea2d wsJx4a65c_add_9ea2d (rm_Jx4a65c_add_9ea2d 1 (n + n / 2)) D (tyl dT) Z ad L (pf dT K N I Rr ad) [.ref (ad l), .ref (ad x)] 1 (n + n / 2) (fun r u => (∃ q, u = (va_up ad e2 q, (L ++ [e2]), pf dT K N (up2 (up2 I l 0 (I l 0 + 1)) l 2 (nI (n + 1))) (up2 (up2 (fun a => if a = e2 then fun k => if k < N e then Rr e k else Rr e2 k else Rr a) l 1 (some e2)) e2 n (some x)) (va_up ad e2 q))) ∧ 1 = r) := by
  intro l9
  refine bi_of (own := RJx4a65c) (cc := cJx4a65c_add_9ea2d) (maxL := 2) (some .boolean) [(0, .ref (ad l)), (1, .ref (ad x))] (by decide) rfl rfl rfl (Nat.le_of_ble_eq_true rfl) ?_
  intro X hX hE hN hM
  have q_w1 : Cond.fieldLink RJx4a65c 63 "java/util/ArrayList" "modCount" "I" ∈ wsJx4a65c_add_9ea2d := List.mem_of_getElem? (i := 1) rfl
  have q_inJx4a65c : ∀ w ∈ wsJx4a65c0, w ∈ wsJx4a65c_add_9ea2d := by decide +kernel
  have q_w2 : Cond.sameField "java/util/ArrayList" "java/util/AbstractList" "modCount" "I" ∈ wsJx4a65c_add_9ea2d := List.mem_of_getElem? (i := 2) rfl
  have q_w3 : Cond.fieldLink RJx4a65c 9 "java/util/ArrayList" "elementData" "[Ljava/lang/Object;" ∈ wsJx4a65c_add_9ea2d := List.mem_of_getElem? (i := 3) rfl
  have q_w4 : Cond.fieldLink RJx4a65c 48 "java/util/ArrayList" "size" "I" ∈ wsJx4a65c_add_9ea2d := List.mem_of_getElem? (i := 4) rfl
  refine g_aload_n hX 0 rfl dJx4a65c_add_9ea2d_0 rfl ?_
  refine g_dup hX dJx4a65c_add_9ea2d_1 rfl ?_
  refine b_getMC (i := l) hX q_inJx4a65c hl hlk q_w1 q_w2 dJx4a65c_add_9ea2d_2 ?_
  refine g_iconst hX (1) dJx4a65c_add_9ea2d_5 rfl ?_
  refine g_iadd hX dJx4a65c_add_9ea2d_6 ?_
  refine b_putMC (i := l) hX q_inJx4a65c hl hlk q_w1 q_w2 dJx4a65c_add_9ea2d_7 ?_
  refine g_aload_n hX 0 rfl dJx4a65c_add_9ea2d_10 rfl ?_
  refine g_aload_n hX 1 rfl dJx4a65c_add_9ea2d_11 rfl ?_
  refine g_aload_n hX 0 rfl dJx4a65c_add_9ea2d_12 rfl ?_
  refine g_getRs (i := l) hX 3 1 q_inJx4a65c hl hlk (by decide) rfl (by decide) rfl q_w3 rfl (j := e) hre dJx4a65c_add_9ea2d_13 ?_
  refine g_aload_n hX 0 rfl dJx4a65c_add_9ea2d_16 rfl ?_
  refine g_getI (i := l) hX 3 2 q_inJx4a65c hl hlk (by decide) rfl (by decide) rfl q_w4 rfl dJx4a65c_add_9ea2d_17 ?_
  refine g_eqi (y := (nI n)) ((up2_n (Or.inr (by decide))).trans hs) ?_
  refine b_callV_V hX hM (b := l) [.ref (ad x), .ref (ad e), .int (nI n)] hl (pf_obj hlk (by decide)) rfl (k_Jx4a65c_add_72be8A l hl hlk e he hek hre n hNe h2 h4 e2 hn2 hR2 hk2 hR20 hN2 kd C hC hel ((up2_n (Or.inr (by decide))).trans hs) x hxL hkx) gJx4a65c_add_9ea2d_Jx4a65c_add_72be8 rfl rfl rfl hd_Jx4a65c_add_72be8 ⟨Nat.le_of_ble_eq_true rfl, Nat.le_of_ble_eq_true rfl⟩ ⟨Nat.le_of_ble_eq_true rfl, (by show 0 + (n + n / 2) ≤ n + n / 2; omega)⟩ rfl (Nat.le_of_ble_eq_true rfl) dJx4a65c_add_9ea2d_20 (fun ad9 L9 f9 hp9 => ?_)
  obtain ⟨qa1, he9⟩ := hp9
  cases he9
  obtain ⟨a1, ha1⟩ : ∃ z9, z9 = va_up ad e2 qa1 := ⟨_, rfl⟩
  have ga1 : ∀ i, i ∈ L → a1 i = ad i := fun i hi => by rw [ha1]; exact va_up_ne _ _ (fun h => hn2 (h ▸ hi))
  rw [← ha1]
  refine g_lvs (lv2 := [(0, .ref (a1 l)), (1, .ref (a1 x))]) (st2 := []) (by rw [ga1 l hl, ga1 x hxL]) rfl ?_
  refine g_iconst hX (1) dJx4a65c_add_9ea2d_23 rfl ?_
  refine b_zret hX rfl hE dJx4a65c_add_9ea2d_24 (by omega) (by omega) ?_
  subst ha1
  exact ⟨⟨_, rfl⟩, rfl⟩
set_option maxRecDepth 100000 in
set_option maxHeartbeats 4000000 in
theorem k_Jx4a65c_add_9ea2dB {D : va_G} {dT : Nat → ClassId} {Z : ZT} {K N : Nat → Nat} {I : Nat → Nat → Int32} {Rr : Nat → Nat → Option Nat} {ad : Nat → Nat} {L : List Nat} (l : Nat) (hl : l ∈ L) (hlk : K l = 3) (zn : Nat) (hz : ad zn = Z.1) (hre : Rr l 1 = some zn) (e2 : Nat) (hn2 : e2 ∉ L) (hR2 : ∀ i ∈ L, ∀ k, Rr i k ≠ some e2) (hk2 : K e2 = 25) (hR20 : ∀ k, Rr e2 k = none) (hN2 : N e2 = 10) (hs : I l 2 = 0) (x : Nat) (hxL : x ∈ L) (hkx : K x = 20 ∨ K x = 26) : ∀ l8, BI l8 yJx4a65c_add_9ea2d wsJx4a65c_add_9ea2d (rm_Jx4a65c_add_9ea2d 1 10) D (tyl dT) Z ad L (pf dT K N I Rr ad) [.ref (ad l), .ref (ad x)] 1 10 (fun r u => (∃ q, u = (va_up ad e2 q, (L ++ [e2]), pf dT K N (up2 (up2 I l 0 (I l 0 + 1)) l 2 (nI 1)) (up2 (up2 Rr l 1 (some e2)) e2 0 (some x)) (va_up ad e2 q))) ∧ 1 = r) := by
  intro l9
  refine bi_of (own := RJx4a65c) (cc := cJx4a65c_add_9ea2d) (maxL := 2) (some .boolean) [(0, .ref (ad l)), (1, .ref (ad x))] (by decide) rfl rfl rfl (Nat.le_of_ble_eq_true rfl) ?_
  intro X hX hE hN hM
  have q_w1 : Cond.fieldLink RJx4a65c 63 "java/util/ArrayList" "modCount" "I" ∈ wsJx4a65c_add_9ea2d := List.mem_of_getElem? (i := 1) rfl
  have q_inJx4a65c : ∀ w ∈ wsJx4a65c0, w ∈ wsJx4a65c_add_9ea2d := by decide +kernel
  have q_w2 : Cond.sameField "java/util/ArrayList" "java/util/AbstractList" "modCount" "I" ∈ wsJx4a65c_add_9ea2d := List.mem_of_getElem? (i := 2) rfl
  have q_w3 : Cond.fieldLink RJx4a65c 9 "java/util/ArrayList" "elementData" "[Ljava/lang/Object;" ∈ wsJx4a65c_add_9ea2d := List.mem_of_getElem? (i := 3) rfl
  have q_w4 : Cond.fieldLink RJx4a65c 48 "java/util/ArrayList" "size" "I" ∈ wsJx4a65c_add_9ea2d := List.mem_of_getElem? (i := 4) rfl
  refine g_aload_n hX 0 rfl dJx4a65c_add_9ea2d_0 rfl ?_
  refine g_dup hX dJx4a65c_add_9ea2d_1 rfl ?_
  refine b_getMC (i := l) hX q_inJx4a65c hl hlk q_w1 q_w2 dJx4a65c_add_9ea2d_2 ?_
  refine g_iconst hX (1) dJx4a65c_add_9ea2d_5 rfl ?_
  refine g_iadd hX dJx4a65c_add_9ea2d_6 ?_
  refine b_putMC (i := l) hX q_inJx4a65c hl hlk q_w1 q_w2 dJx4a65c_add_9ea2d_7 ?_
  refine g_aload_n hX 0 rfl dJx4a65c_add_9ea2d_10 rfl ?_
  refine g_aload_n hX 1 rfl dJx4a65c_add_9ea2d_11 rfl ?_
  refine g_aload_n hX 0 rfl dJx4a65c_add_9ea2d_12 rfl ?_
  refine g_getRs (i := l) hX 3 1 q_inJx4a65c hl hlk (by decide) rfl (by decide) rfl q_w3 rfl (j := zn) hre dJx4a65c_add_9ea2d_13 ?_
  rw [hz]
  refine g_aload_n hX 0 rfl dJx4a65c_add_9ea2d_16 rfl ?_
  refine g_getI (i := l) hX 3 2 q_inJx4a65c hl hlk (by decide) rfl (by decide) rfl q_w4 rfl dJx4a65c_add_9ea2d_17 ?_
  refine g_eqi (y := 0) ((up2_n (Or.inr (by decide))).trans hs) ?_
  refine b_callV_V hX hM (b := l) [.ref (ad x), .ref Z.1, .int 0] hl (pf_obj hlk (by decide)) rfl (k_Jx4a65c_add_72be8B l hl hlk zn hz hre e2 hn2 hR2 hk2 hR20 hN2 ((up2_n (Or.inr (by decide))).trans hs) x hxL hkx) gJx4a65c_add_9ea2d_Jx4a65c_add_72be8 rfl rfl rfl hd_Jx4a65c_add_72be8 ⟨Nat.le_of_ble_eq_true rfl, Nat.le_of_ble_eq_true rfl⟩ ⟨Nat.le_of_ble_eq_true rfl, Nat.le_of_ble_eq_true rfl⟩ rfl (Nat.le_of_ble_eq_true rfl) dJx4a65c_add_9ea2d_20 (fun ad9 L9 f9 hp9 => ?_)
  obtain ⟨qa1, he9⟩ := hp9
  cases he9
  obtain ⟨a1, ha1⟩ : ∃ z9, z9 = va_up ad e2 qa1 := ⟨_, rfl⟩
  have ga1 : ∀ i, i ∈ L → a1 i = ad i := fun i hi => by rw [ha1]; exact va_up_ne _ _ (fun h => hn2 (h ▸ hi))
  rw [← ha1]
  refine g_lvs (lv2 := [(0, .ref (a1 l)), (1, .ref (a1 x))]) (st2 := []) (by rw [ga1 l hl, ga1 x hxL]) rfl ?_
  refine g_iconst hX (1) dJx4a65c_add_9ea2d_23 rfl ?_
  refine b_zret hX rfl hE dJx4a65c_add_9ea2d_24 (by omega) (by omega) ?_
  subst ha1
  exact ⟨⟨_, rfl⟩, rfl⟩
set_option maxRecDepth 100000 in
set_option maxHeartbeats 4000000 in
theorem k_Jx4a65c_add_9ea2dR {D : va_G} {dT : Nat → ClassId} {Z : ZT} {K N : Nat → Nat} {I : Nat → Nat → Int32} {Rr : Nat → Nat → Option Nat} {ad : Nat → Nat} {L : List Nat} (l : Nat) (hl : l ∈ L) (hlk : K l = 3) (e : Nat) (he : e ∈ L) (hek : K e = 25) (hre : Rr l 1 = some e) (s : Nat) (hse : s ≤ N e) (h31 : N e < 2 ^ 31) (hs9 : s < N e) (hs : I l 2 = nI s) (x : Nat) (hxL : x ∈ L) (hkx : K x = 20 ∨ K x = 26) : ∀ l8, BI l8 yJx4a65c_add_9ea2d wsJx4a65c_add_9ea2d (rm_Jx4a65c_add_9ea2d 0 0) D (tyl dT) Z ad L (pf dT K N I Rr ad) [.ref (ad l), .ref (ad x)] 0 0 (fun r u => u = (ad, L, pf dT K N (up2 (up2 I l 0 (I l 0 + 1)) l 2 (nI (s + 1))) (up2 Rr e s (some x)) ad) ∧ 1 = r) := by
  intro l9
  refine bi_of (own := RJx4a65c) (cc := cJx4a65c_add_9ea2d) (maxL := 2) (some .boolean) [(0, .ref (ad l)), (1, .ref (ad x))] (by decide) rfl rfl rfl (Nat.le_of_ble_eq_true rfl) ?_
  intro X hX hE hN hM
  have q_w1 : Cond.fieldLink RJx4a65c 63 "java/util/ArrayList" "modCount" "I" ∈ wsJx4a65c_add_9ea2d := List.mem_of_getElem? (i := 1) rfl
  have q_inJx4a65c : ∀ w ∈ wsJx4a65c0, w ∈ wsJx4a65c_add_9ea2d := by decide +kernel
  have q_w2 : Cond.sameField "java/util/ArrayList" "java/util/AbstractList" "modCount" "I" ∈ wsJx4a65c_add_9ea2d := List.mem_of_getElem? (i := 2) rfl
  have q_w3 : Cond.fieldLink RJx4a65c 9 "java/util/ArrayList" "elementData" "[Ljava/lang/Object;" ∈ wsJx4a65c_add_9ea2d := List.mem_of_getElem? (i := 3) rfl
  have q_w4 : Cond.fieldLink RJx4a65c 48 "java/util/ArrayList" "size" "I" ∈ wsJx4a65c_add_9ea2d := List.mem_of_getElem? (i := 4) rfl
  refine g_aload_n hX 0 rfl dJx4a65c_add_9ea2d_0 rfl ?_
  refine g_dup hX dJx4a65c_add_9ea2d_1 rfl ?_
  refine b_getMC (i := l) hX q_inJx4a65c hl hlk q_w1 q_w2 dJx4a65c_add_9ea2d_2 ?_
  refine g_iconst hX (1) dJx4a65c_add_9ea2d_5 rfl ?_
  refine g_iadd hX dJx4a65c_add_9ea2d_6 ?_
  refine b_putMC (i := l) hX q_inJx4a65c hl hlk q_w1 q_w2 dJx4a65c_add_9ea2d_7 ?_
  refine g_aload_n hX 0 rfl dJx4a65c_add_9ea2d_10 rfl ?_
  refine g_aload_n hX 1 rfl dJx4a65c_add_9ea2d_11 rfl ?_
  refine g_aload_n hX 0 rfl dJx4a65c_add_9ea2d_12 rfl ?_
  refine g_getRs (i := l) hX 3 1 q_inJx4a65c hl hlk (by decide) rfl (by decide) rfl q_w3 rfl (j := e) hre dJx4a65c_add_9ea2d_13 ?_
  refine g_aload_n hX 0 rfl dJx4a65c_add_9ea2d_16 rfl ?_
  refine g_getI (i := l) hX 3 2 q_inJx4a65c hl hlk (by decide) rfl (by decide) rfl q_w4 rfl dJx4a65c_add_9ea2d_17 ?_
  refine g_eqi (y := (nI s)) ((up2_n (Or.inr (by decide))).trans hs) ?_
  refine b_callV_V hX hM (b := l) [.ref (ad x), .ref (ad e), .int (nI s)] hl (pf_obj hlk (by decide)) rfl (k_Jx4a65c_add_72be8R l hl hlk e he hek hre s hse h31 hs9 x hxL hkx) gJx4a65c_add_9ea2d_Jx4a65c_add_72be8 rfl rfl rfl hd_Jx4a65c_add_72be8 ⟨Nat.le_of_ble_eq_true rfl, Nat.le_of_ble_eq_true rfl⟩ ⟨Nat.le_of_ble_eq_true rfl, Nat.le_of_ble_eq_true rfl⟩ rfl (Nat.le_of_ble_eq_true rfl) dJx4a65c_add_9ea2d_20 (fun ad9 L9 f9 hp9 => ?_)
  cases hp9
  refine g_iconst hX (1) dJx4a65c_add_9ea2d_23 rfl ?_
  refine b_zret hX rfl hE dJx4a65c_add_9ea2d_24 (by omega) (by omega) ?_
  exact ⟨rfl, rfl⟩
abbrev rm_Jx4a65c_clear_da8c8 : Room := { frames := 0, cells := 0, slots := 0, locals := 0 }
theorem hd_Jx4a65c_clear_da8c8 : yJx4a65c_clear_da8c8.cls = RJx4a65c ∧ yJx4a65c_clear_da8c8.cls ≠ "java/lang/invoke/MethodHandle" ∧ yJx4a65c_clear_da8c8.cls ≠ "java/lang/invoke/VarHandle" ∧ (parseMethodDescriptor yJx4a65c_clear_da8c8.desc).map (fun d => d.parameters.length) = some 0 := by decide +kernel
set_option maxRecDepth 100000 in
set_option maxHeartbeats 4000000 in
theorem k_Jx4a65c_clear_da8c8A {D : va_G} {dT : Nat → ClassId} {Z : ZT} {K N : Nat → Nat} {I : Nat → Nat → Int32} {Rr : Nat → Nat → Option Nat} {ad : Nat → Nat} {L : List Nat} (l : Nat) (hl : l ∈ L) (hlk : K l = 3) (e : Nat) (he : e ∈ L) (hek : K e = 25) (hre : Rr l 1 = some e) (s : Nat) (hse : s ≤ N e) (h31 : N e < 2 ^ 31) (hs : I l 2 = nI s) : ∀ l8, BV l8 yJx4a65c_clear_da8c8 wsJx4a65c_clear_da8c8 rm_Jx4a65c_clear_da8c8 D (tyl dT) Z ad L (pf dT K N I Rr ad) [.ref (ad l)] 0 0 (fun u => u = (ad, L, pf dT K N (up2 (up2 I l 0 (I l 0 + 1)) l 2 0) (clR Rr e s) ad)) := by
  intro l9
  refine bv_of (own := RJx4a65c) (cc := cJx4a65c_clear_da8c8) (maxL := 4) [(0, .ref (ad l))] (by decide) rfl rfl rfl (Nat.le_of_ble_eq_true rfl) ?_
  intro X hX hE hN hM
  have q_w1 : Cond.fieldLink RJx4a65c 63 "java/util/ArrayList" "modCount" "I" ∈ wsJx4a65c_clear_da8c8 := List.mem_of_getElem? (i := 1) rfl
  have q_inJx4a65c : ∀ w ∈ wsJx4a65c0, w ∈ wsJx4a65c_clear_da8c8 := by decide +kernel
  have q_w2 : Cond.sameField "java/util/ArrayList" "java/util/AbstractList" "modCount" "I" ∈ wsJx4a65c_clear_da8c8 := List.mem_of_getElem? (i := 2) rfl
  have q_w3 : Cond.fieldLink RJx4a65c 9 "java/util/ArrayList" "elementData" "[Ljava/lang/Object;" ∈ wsJx4a65c_clear_da8c8 := List.mem_of_getElem? (i := 3) rfl
  have q_w4 : Cond.fieldLink RJx4a65c 48 "java/util/ArrayList" "size" "I" ∈ wsJx4a65c_clear_da8c8 := List.mem_of_getElem? (i := 4) rfl
  refine g_aload_n hX 0 rfl dJx4a65c_clear_da8c8_0 rfl ?_
  refine g_dup hX dJx4a65c_clear_da8c8_1 rfl ?_
  refine b_getMC (i := l) hX q_inJx4a65c hl hlk q_w1 q_w2 dJx4a65c_clear_da8c8_2 ?_
  refine g_iconst hX (1) dJx4a65c_clear_da8c8_5 rfl ?_
  refine g_iadd hX dJx4a65c_clear_da8c8_6 ?_
  refine b_putMC (i := l) hX q_inJx4a65c hl hlk q_w1 q_w2 dJx4a65c_clear_da8c8_7 ?_
  refine g_aload_n hX 0 rfl dJx4a65c_clear_da8c8_10 rfl ?_
  refine g_getRs (i := l) hX 3 1 q_inJx4a65c hl hlk (by decide) rfl (by decide) rfl q_w3 rfl (j := e) hre dJx4a65c_clear_da8c8_11 ?_
  refine g_astore_n hX [(1, .ref (ad e)), (0, .ref (ad l))] rfl dJx4a65c_clear_da8c8_14 rfl (by decide) ?_
  refine g_aload_n hX 1 rfl dJx4a65c_clear_da8c8_15 rfl ?_
  refine g_getI (i := l) hX 3 2 q_inJx4a65c hl hlk (by decide) rfl (by decide) rfl q_w4 rfl dJx4a65c_clear_da8c8_16 ?_
  refine g_eqi (y := (nI s)) ((up2_n (Or.inr (by decide))).trans hs) ?_
  refine g_istore_n hX [(2, .int (nI s)), (1, .ref (ad e)), (0, .ref (ad l))] rfl dJx4a65c_clear_da8c8_19 rfl (by decide) ?_
  refine g_aload_n hX 2 rfl dJx4a65c_clear_da8c8_20 rfl ?_
  refine g_iconst hX (0) dJx4a65c_clear_da8c8_21 rfl ?_
  refine g_dupx1 hX dJx4a65c_clear_da8c8_22 rfl rfl ?_
  refine g_putI hX (i := l) 3 2 q_inJx4a65c hl hlk (by decide) rfl (by decide) rfl q_w4 rfl tyJx4a65c_ok nmJx4a65c rfl (ty := .int) (by decide +kernel) rfl rfl dJx4a65c_clear_da8c8_23 ?_
  refine g_istore_n hX [(3, .int 0), (2, .int (nI s)), (1, .ref (ad e)), (0, .ref (ad l))] rfl dJx4a65c_clear_da8c8_26 rfl (by decide) ?_
  have lp_27 : ∀ (n9 : Nat) (k : Nat), s - k < n9 → (k ≤ s) → GG X D ad L (pf dT K N (up2 (up2 I l 0 ((I l 0) + 1)) l 2 0) (clR Rr e k) ad) [(3, .int (nI k)), (2, .int (nI s)), (1, .ref (ad e)), (0, .ref (ad l))] (0) (0) 27 [] := by
    intro n9
    induction n9 with
    | zero => intro k h9; exact absurd h9 (Nat.not_lt_zero _)
    | succ n9 ih9 =>
      intro k h9 hk
      have ih_27 := ih9
      refine g_iload_n hX 0 rfl dJx4a65c_clear_da8c8_27 rfl ?_
      refine g_iload_n hX 1 rfl dJx4a65c_clear_da8c8_28 rfl ?_
      refine g_icmp_ge (tgt := 42) hX dJx4a65c_clear_da8c8_29 (by decide) (fun c_29 => ?_) (fun c_29 => ?_)
      · have c_29 : s ≤ k := (nI_leI (a := s) (b := k) (by omega) (by omega)).mp c_29
        refine b_vret hX hE dJx4a65c_clear_da8c8_42 (by omega) (by omega) ?_
        have hks : k = s := by omega
        subst hks
        exact rfl
      · have c_29 : ¬ s ≤ k := fun h9 => c_29 ((nI_leI (a := s) (b := k) (by omega) (by omega)).mpr h9)
        refine g_aload_n hX 2 rfl dJx4a65c_clear_da8c8_32 rfl ?_
        refine g_iload_n hX 0 rfl dJx4a65c_clear_da8c8_33 rfl ?_
        refine g_null hX dJx4a65c_clear_da8c8_34 ?_
        refine h_astN (i := e)  hX k rfl (by omega) h31 he hek dJx4a65c_clear_da8c8_35 ?_
        refine g_iinc hX (nI (k + 1)) [(3, .int (nI (k + 1))), (2, .int (nI s)), (1, .ref (ad e)), (0, .ref (ad l))] (k := 0) rfl (g_inc k) rfl dJx4a65c_clear_da8c8_36 (by decide) ?_
        refine g_goto (tgt := 27) hX dJx4a65c_clear_da8c8_39 (by decide) ?_
        rw [clR_up]
        refine g_lv [0, 1, 2, 3] rfl ?_
        exact ih_27 (k + 1) (by omega) (by omega)
  refine g_f (g := pf dT K N (up2 (up2 I l 0 (I l 0 + 1)) l 2 0) (clR Rr e 0) ad) (fun i hi => by rw [clR_0]) ?_
  refine g_lv [0, 1, 2, 3] rfl ?_
  exact lp_27 _ 0 (Nat.lt_succ_self _) (Nat.zero_le _)
set_option maxRecDepth 100000 in
set_option maxHeartbeats 4000000 in
theorem k_Jx4a65c_clear_da8c8B {D : va_G} {dT : Nat → ClassId} {Z : ZT} {K N : Nat → Nat} {I : Nat → Nat → Int32} {Rr : Nat → Nat → Option Nat} {ad : Nat → Nat} {L : List Nat} (l : Nat) (hl : l ∈ L) (hlk : K l = 3) (zn : Nat) (hz : ad zn = Z.1) (hre : Rr l 1 = some zn) (hs : I l 2 = 0) : ∀ l8, BV l8 yJx4a65c_clear_da8c8 wsJx4a65c_clear_da8c8 rm_Jx4a65c_clear_da8c8 D (tyl dT) Z ad L (pf dT K N I Rr ad) [.ref (ad l)] 0 0 (fun u => u = (ad, L, pf dT K N (up2 (up2 I l 0 (I l 0 + 1)) l 2 0) Rr ad)) := by
  intro l9
  refine bv_of (own := RJx4a65c) (cc := cJx4a65c_clear_da8c8) (maxL := 4) [(0, .ref (ad l))] (by decide) rfl rfl rfl (Nat.le_of_ble_eq_true rfl) ?_
  intro X hX hE hN hM
  have q_w1 : Cond.fieldLink RJx4a65c 63 "java/util/ArrayList" "modCount" "I" ∈ wsJx4a65c_clear_da8c8 := List.mem_of_getElem? (i := 1) rfl
  have q_inJx4a65c : ∀ w ∈ wsJx4a65c0, w ∈ wsJx4a65c_clear_da8c8 := by decide +kernel
  have q_w2 : Cond.sameField "java/util/ArrayList" "java/util/AbstractList" "modCount" "I" ∈ wsJx4a65c_clear_da8c8 := List.mem_of_getElem? (i := 2) rfl
  have q_w3 : Cond.fieldLink RJx4a65c 9 "java/util/ArrayList" "elementData" "[Ljava/lang/Object;" ∈ wsJx4a65c_clear_da8c8 := List.mem_of_getElem? (i := 3) rfl
  have q_w4 : Cond.fieldLink RJx4a65c 48 "java/util/ArrayList" "size" "I" ∈ wsJx4a65c_clear_da8c8 := List.mem_of_getElem? (i := 4) rfl
  refine g_aload_n hX 0 rfl dJx4a65c_clear_da8c8_0 rfl ?_
  refine g_dup hX dJx4a65c_clear_da8c8_1 rfl ?_
  refine b_getMC (i := l) hX q_inJx4a65c hl hlk q_w1 q_w2 dJx4a65c_clear_da8c8_2 ?_
  refine g_iconst hX (1) dJx4a65c_clear_da8c8_5 rfl ?_
  refine g_iadd hX dJx4a65c_clear_da8c8_6 ?_
  refine b_putMC (i := l) hX q_inJx4a65c hl hlk q_w1 q_w2 dJx4a65c_clear_da8c8_7 ?_
  refine g_aload_n hX 0 rfl dJx4a65c_clear_da8c8_10 rfl ?_
  refine g_getRs (i := l) hX 3 1 q_inJx4a65c hl hlk (by decide) rfl (by decide) rfl q_w3 rfl (j := zn) hre dJx4a65c_clear_da8c8_11 ?_
  rw [hz]
  refine g_astore_n hX [(1, .ref Z.1), (0, .ref (ad l))] rfl dJx4a65c_clear_da8c8_14 rfl (by decide) ?_
  refine g_aload_n hX 1 rfl dJx4a65c_clear_da8c8_15 rfl ?_
  refine g_getI (i := l) hX 3 2 q_inJx4a65c hl hlk (by decide) rfl (by decide) rfl q_w4 rfl dJx4a65c_clear_da8c8_16 ?_
  refine g_eqi (y := 0) ((up2_n (Or.inr (by decide))).trans hs) ?_
  refine g_istore_n hX [(2, .int 0), (1, .ref Z.1), (0, .ref (ad l))] rfl dJx4a65c_clear_da8c8_19 rfl (by decide) ?_
  refine g_aload_n hX 2 rfl dJx4a65c_clear_da8c8_20 rfl ?_
  refine g_iconst hX (0) dJx4a65c_clear_da8c8_21 rfl ?_
  refine g_dupx1 hX dJx4a65c_clear_da8c8_22 rfl rfl ?_
  refine g_putI hX (i := l) 3 2 q_inJx4a65c hl hlk (by decide) rfl (by decide) rfl q_w4 rfl tyJx4a65c_ok nmJx4a65c rfl (ty := .int) (by decide +kernel) rfl rfl dJx4a65c_clear_da8c8_23 ?_
  refine g_istore_n hX [(3, .int 0), (2, .int 0), (1, .ref Z.1), (0, .ref (ad l))] rfl dJx4a65c_clear_da8c8_26 rfl (by decide) ?_
  refine g_iload_n hX 0 rfl dJx4a65c_clear_da8c8_27 rfl ?_
  refine g_iload_n hX 1 rfl dJx4a65c_clear_da8c8_28 rfl ?_
  refine g_icmp_ge (tgt := 42) hX dJx4a65c_clear_da8c8_29 (by decide) (fun c_29 => ?_) (fun c_29 => ?_)
  · refine b_vret hX hE dJx4a65c_clear_da8c8_42 (by omega) (by omega) ?_
    exact rfl
  · first | exact absurd c_29 (by decide) | exact absurd (by decide) c_29
abbrev rm_J0_coder_7d493 : Room := { frames := 0, cells := 0, slots := 0, locals := 0 }
theorem hd_J0_coder_7d493 : yJ0_coder_7d493.cls = RJ0 ∧ yJ0_coder_7d493.cls ≠ "java/lang/invoke/MethodHandle" ∧ yJ0_coder_7d493.cls ≠ "java/lang/invoke/VarHandle" ∧ (parseMethodDescriptor yJ0_coder_7d493.desc).map (fun d => d.parameters.length) = some 0 := by decide +kernel
set_option maxRecDepth 100000 in
set_option maxHeartbeats 4000000 in
theorem k_J0_coder_7d493 {D : va_G} {dT : Nat → ClassId} {Z : ZT} {K N : Nat → Nat} {I : Nat → Nat → Int32} {Rr : Nat → Nat → Option Nat} {ad : Nat → Nat} {L : List Nat} (i : Nat) (hi : i < 3) : ∀ l8, BI l8 yJ0_coder_7d493 wsJ0_coder_7d493 rm_J0_coder_7d493 D (tyl dT) Z ad L (pf dT K N I Rr ad) [.ref (Z.2.1 i)] 0 0 (fun r u => u = (ad, L, pf dT K N I Rr ad) ∧ 0 = r) := by
  intro l9
  refine bi_of (own := RJ0) (cc := cJ0_coder_7d493) (maxL := 1) (some .byte) [(0, .ref (Z.2.1 i))] (by decide) rfl rfl rfl (Nat.le_of_ble_eq_true rfl) ?_
  intro X hX hE hN hM
  have q_w1 : Cond.fieldLink RJ0 38 "java/lang/String" "COMPACT_STRINGS" "Z" ∈ wsJ0_coder_7d493 := List.mem_of_getElem? (i := 1) rfl
  have q_w2 : Cond.fieldLink RJ0 15 "java/lang/String" "coder" "B" ∈ wsJ0_coder_7d493 := List.mem_of_getElem? (i := 2) rfl
  refine b_getsC hX hM q_w1 dJ0_coder_7d493_0 ?_
  refine g_if_eq (tgt := 13) hX dJ0_coder_7d493_3 (by decide) (fun c_3 => ?_) (fun c_3 => ?_)
  · first | exact absurd c_3 (by decide) | exact absurd (by decide) c_3
  · refine g_aload_n hX 0 rfl dJ0_coder_7d493_6 rfl ?_
    refine b_scod hX hM (i := i) hi q_w2 dJ0_coder_7d493_7 ?_
    refine g_goto (tgt := 14) hX dJ0_coder_7d493_10 (by decide) ?_
    refine b_zret hX rfl hE dJ0_coder_7d493_14 (by omega) (by omega) ?_
    exact ⟨rfl, rfl⟩
abbrev rm_J0_isLatin1_aae02 : Room := { frames := 0, cells := 0, slots := 0, locals := 0 }
theorem hd_J0_isLatin1_aae02 : yJ0_isLatin1_aae02.cls = RJ0 ∧ yJ0_isLatin1_aae02.cls ≠ "java/lang/invoke/MethodHandle" ∧ yJ0_isLatin1_aae02.cls ≠ "java/lang/invoke/VarHandle" ∧ (parseMethodDescriptor yJ0_isLatin1_aae02.desc).map (fun d => d.parameters.length) = some 0 := by decide +kernel
set_option maxRecDepth 100000 in
set_option maxHeartbeats 4000000 in
theorem k_J0_isLatin1_aae02 {D : va_G} {dT : Nat → ClassId} {Z : ZT} {K N : Nat → Nat} {I : Nat → Nat → Int32} {Rr : Nat → Nat → Option Nat} {ad : Nat → Nat} {L : List Nat} (i : Nat) (hi : i < 3) : ∀ l8, BI l8 yJ0_isLatin1_aae02 wsJ0_isLatin1_aae02 rm_J0_isLatin1_aae02 D (tyl dT) Z ad L (pf dT K N I Rr ad) [.ref (Z.2.1 i)] 0 0 (fun r u => u = (ad, L, pf dT K N I Rr ad) ∧ 1 = r) := by
  intro l9
  refine bi_of (own := RJ0) (cc := cJ0_isLatin1_aae02) (maxL := 1) (some .boolean) [(0, .ref (Z.2.1 i))] (by decide) rfl rfl rfl (Nat.le_of_ble_eq_true rfl) ?_
  intro X hX hE hN hM
  have q_w1 : Cond.fieldLink RJ0 38 "java/lang/String" "COMPACT_STRINGS" "Z" ∈ wsJ0_isLatin1_aae02 := List.mem_of_getElem? (i := 1) rfl
  have q_w2 : Cond.fieldLink RJ0 15 "java/lang/String" "coder" "B" ∈ wsJ0_isLatin1_aae02 := List.mem_of_getElem? (i := 2) rfl
  refine b_getsC hX hM q_w1 dJ0_isLatin1_aae02_0 ?_
  refine g_if_eq (tgt := 17) hX dJ0_isLatin1_aae02_3 (by decide) (fun c_3 => ?_) (fun c_3 => ?_)
  · first | exact absurd c_3 (by decide) | exact absurd (by decide) c_3
  · refine g_aload_n hX 0 rfl dJ0_isLatin1_aae02_6 rfl ?_
    refine b_scod hX hM (i := i) hi q_w2 dJ0_isLatin1_aae02_7 ?_
    refine g_if_ne (tgt := 17) hX dJ0_isLatin1_aae02_10 (by decide) (fun c_10 => ?_) (fun c_10 => ?_)
    · first | exact absurd c_10 (by decide) | exact absurd (by decide) c_10
    · refine g_iconst hX (1) dJ0_isLatin1_aae02_13 rfl ?_
      refine g_goto (tgt := 18) hX dJ0_isLatin1_aae02_14 (by decide) ?_
      refine b_zret hX rfl hE dJ0_isLatin1_aae02_18 (by omega) (by omega) ?_
      exact ⟨rfl, rfl⟩
abbrev rm_J0_length_8abf5 : Room := { frames := 1, cells := 0, slots := 0, locals := 20 }
theorem hd_J0_length_8abf5 : yJ0_length_8abf5.cls = RJ0 ∧ yJ0_length_8abf5.cls ≠ "java/lang/invoke/MethodHandle" ∧ yJ0_length_8abf5.cls ≠ "java/lang/invoke/VarHandle" ∧ (parseMethodDescriptor yJ0_length_8abf5.desc).map (fun d => d.parameters.length) = some 0 := by decide +kernel
set_option maxRecDepth 100000 in
set_option maxHeartbeats 4000000 in
theorem k_J0_length_8abf5 {D : va_G} {dT : Nat → ClassId} {Z : ZT} {K N : Nat → Nat} {I : Nat → Nat → Int32} {Rr : Nat → Nat → Option Nat} {ad : Nat → Nat} {L : List Nat} (i : Nat) (hi : i < 3) : ∀ l8, BI l8 yJ0_length_8abf5 wsJ0_length_8abf5 rm_J0_length_8abf5 D (tyl dT) Z ad L (pf dT K N I Rr ad) [.ref (Z.2.1 i)] 0 0 (fun r u => u = (ad, L, pf dT K N I Rr ad) ∧ nI (zLen.getD i 0) >>> ((0 : Int32) &&& 31) = r) := by
  intro l9
  refine bi_of (own := RJ0) (cc := cJ0_length_8abf5) (maxL := 1) (some .int) [(0, .ref (Z.2.1 i))] (by decide) rfl rfl rfl (Nat.le_of_ble_eq_true rfl) ?_
  intro X hX hE hN hM
  have q_w1 : Cond.fieldLink RJ0 9 "java/lang/String" "value" "[B" ∈ wsJ0_length_8abf5 := List.mem_of_getElem? (i := 1) rfl
  refine g_aload_n hX 0 rfl dJ0_length_8abf5_0 rfl ?_
  refine b_sval hX hM (i := i) hi q_w1 dJ0_length_8abf5_1 ?_
  refine b_slen hX hM hi dJ0_length_8abf5_4 ?_
  refine g_aload_n hX 0 rfl dJ0_length_8abf5_5 rfl ?_
  refine b_callI_VS hX hM (i := i) hi [] (k_J0_coder_7d493 i hi) gJ0_length_8abf5_J0_coder_7d493 rfl rfl rfl hd_J0_coder_7d493 ⟨Nat.le_of_ble_eq_true rfl, Nat.le_of_ble_eq_true rfl⟩ ⟨Nat.le_of_ble_eq_true rfl, Nat.le_of_ble_eq_true rfl⟩ rfl (Nat.le_of_ble_eq_true rfl) dJ0_length_8abf5_6 (fun r9 ad9 L9 f9 hp9 => ?_)
  obtain ⟨he9, hr9⟩ := hp9
  cases he9
  subst hr9
  refine g_ishr hX dJ0_length_8abf5_9 ?_
  refine b_iret hX hE dJ0_length_8abf5_10 (by omega) (by omega) ?_
  exact ⟨rfl, rfl⟩
abbrev rm_J1_canEncode_9a6ad : Room := { frames := 0, cells := 0, slots := 0, locals := 0 }
theorem hd_J1_canEncode_9a6ad : yJ1_canEncode_9a6ad.cls = RJ1 ∧ yJ1_canEncode_9a6ad.cls ≠ "java/lang/invoke/MethodHandle" ∧ yJ1_canEncode_9a6ad.cls ≠ "java/lang/invoke/VarHandle" ∧ (parseMethodDescriptor yJ1_canEncode_9a6ad.desc).map (fun d => d.parameters.length) = some 1 := by decide +kernel
set_option maxRecDepth 100000 in
set_option maxHeartbeats 4000000 in
theorem k_J1_canEncode_9a6ad {D : va_G} {dT : Nat → ClassId} {Z : ZT} {K N : Nat → Nat} {I : Nat → Nat → Int32} {Rr : Nat → Nat → Option Nat} {ad : Nat → Nat} {L : List Nat} (ch : Int32) : ∀ l8, BI l8 yJ1_canEncode_9a6ad wsJ1_canEncode_9a6ad rm_J1_canEncode_9a6ad D (tyl dT) Z ad L (pf dT K N I Rr ad) [.int ch] 0 0 (fun r u => u = (ad, L, pf dT K N I Rr ad) ∧ (if ch < 0 then 0 else if 255 < ch then 0 else 1) = r) := by
  intro l9
  refine bi_of (own := RJ1) (cc := cJ1_canEncode_9a6ad) (maxL := 1) (some .boolean) [(0, .int ch)] (by decide) rfl rfl rfl (Nat.le_of_ble_eq_true rfl) ?_
  intro X hX hE hN hM
  refine g_iload_n hX 0 rfl dJ1_canEncode_9a6ad_0 rfl ?_
  refine g_if_lt (tgt := 15) hX dJ1_canEncode_9a6ad_1 (by decide) (fun c_1 => ?_) (fun c_1 => ?_)
  · refine g_iconst hX (0) dJ1_canEncode_9a6ad_15 rfl ?_
    refine b_zret hX rfl hE dJ1_canEncode_9a6ad_16 (by omega) (by omega) ?_
    exact ⟨rfl, if_pos c_1⟩
  · refine g_iload_n hX 0 rfl dJ1_canEncode_9a6ad_4 rfl ?_
    refine g_sipush hX (255) dJ1_canEncode_9a6ad_5 rfl ?_
    refine g_icmp_gt (tgt := 15) hX dJ1_canEncode_9a6ad_8 (by decide) (fun c_8 => ?_) (fun c_8 => ?_)
    · refine g_iconst hX (0) dJ1_canEncode_9a6ad_15 rfl ?_
      refine b_zret hX rfl hE dJ1_canEncode_9a6ad_16 (by omega) (by omega) ?_
      exact ⟨rfl, (if_neg c_1).trans (if_pos c_8)⟩
    · refine g_iconst hX (1) dJ1_canEncode_9a6ad_11 rfl ?_
      refine g_goto (tgt := 16) hX dJ1_canEncode_9a6ad_12 (by decide) ?_
      refine b_zret hX rfl hE dJ1_canEncode_9a6ad_16 (by omega) (by omega) ?_
      exact ⟨rfl, (if_neg c_1).trans (if_neg c_8)⟩
abbrev rm_J1_indexOfChar_4cfef : Room := { frames := 0, cells := 0, slots := 0, locals := 0 }
theorem hd_J1_indexOfChar_4cfef : yJ1_indexOfChar_4cfef.cls = RJ1 ∧ yJ1_indexOfChar_4cfef.cls ≠ "java/lang/invoke/MethodHandle" ∧ yJ1_indexOfChar_4cfef.cls ≠ "java/lang/invoke/VarHandle" ∧ (parseMethodDescriptor yJ1_indexOfChar_4cfef.desc).map (fun d => d.parameters.length) = some 4 := by decide +kernel
set_option maxRecDepth 100000 in
set_option maxHeartbeats 4000000 in
theorem k_J1_indexOfChar_4cfef {D : va_G} {dT : Nat → ClassId} {Z : ZT} {K N : Nat → Nat} {I : Nat → Nat → Int32} {Rr : Nat → Nat → Option Nat} {ad : Nat → Nat} {L : List Nat} (i : Nat) (hi : i < 3) (ch : Int32) : ∀ l8, BI l8 yJ1_indexOfChar_4cfef wsJ1_indexOfChar_4cfef rm_J1_indexOfChar_4cfef D (tyl dT) Z ad L (pf dT K N I Rr ad) [.ref (Z.2.2.1 i), .int ch, .int 0, .int (nI (zLen.getD i 0))] 0 0 (fun r u => u = (ad, L, pf dT K N I Rr ad) ∧ fix9 (zByt.getD i []) ch.toInt8.toInt32 (zLen.getD i 0) 0 = r) := by
  intro l9
  refine bi_of (own := RJ1) (cc := cJ1_indexOfChar_4cfef) (maxL := 6) (some .int) [(0, .ref (Z.2.2.1 i)), (1, .int ch), (2, .int 0), (3, .int (nI (zLen.getD i 0)))] (by decide) rfl rfl rfl (Nat.le_of_ble_eq_true rfl) ?_
  intro X hX hE hN hM
  refine g_iload_n hX 1 rfl dJ1_indexOfChar_4cfef_0 rfl ?_
  refine g_i2b hX dJ1_indexOfChar_4cfef_1 ?_
  refine g_istore hX [(4, .int ch.toInt8.toInt32), (0, .ref (Z.2.2.1 i)), (1, .int ch), (2, .int 0), (3, .int (nI (zLen.getD i 0)))] rfl dJ1_indexOfChar_4cfef_2 (by decide) ?_
  refine g_iload_n hX 3 rfl dJ1_indexOfChar_4cfef_4 rfl ?_
  refine g_istore hX [(5, .int 0), (4, .int ch.toInt8.toInt32), (0, .ref (Z.2.2.1 i)), (1, .int ch), (2, .int 0), (3, .int (nI (zLen.getD i 0)))] rfl dJ1_indexOfChar_4cfef_5 (by decide) ?_
  have lp_7 : ∀ (n9 : Nat) (k : Nat), zLen.getD i 0 - k < n9 → (k ≤ zLen.getD i 0) → (fix9 (zByt.getD i []) ch.toInt8.toInt32 (zLen.getD i 0) 0 = fix9 (zByt.getD i []) ch.toInt8.toInt32 (zLen.getD i 0 - k) k) → GG X D ad L (pf dT K N I Rr ad) [(5, .int (nI k)), (4, .int ch.toInt8.toInt32), (0, .ref (Z.2.2.1 i)), (1, .int ch), (2, .int 0), (3, .int (nI (zLen.getD i 0)))] (0) (0) 7 [] := by
    intro n9
    induction n9 with
    | zero => intro k h9; exact absurd h9 (Nat.not_lt_zero _)
    | succ n9 ih9 =>
      intro k h9 hk hf
      have ih_7 := ih9
      refine g_iload hX 0 rfl dJ1_indexOfChar_4cfef_7 ?_
      refine g_iload_n hX 5 rfl dJ1_indexOfChar_4cfef_9 rfl ?_
      refine g_icmp_ge (tgt := 31) hX dJ1_indexOfChar_4cfef_10 (by decide) (fun c_10 => ?_) (fun c_10 => ?_)
      · have c_10 : zLen.getD i 0 ≤ k := (nI_leI (a := zLen.getD i 0) (b := k) (zl31 hi) (by have := zl31 hi; omega)).mp c_10
        refine g_iconst hX (-1) dJ1_indexOfChar_4cfef_31 rfl ?_
        refine b_iret hX hE dJ1_indexOfChar_4cfef_32 (by omega) (by omega) ?_
        exact ⟨rfl, hf.trans (by rw [show zLen.getD i 0 - k = 0 by omega]; rfl)⟩
      · have c_10 : ¬ zLen.getD i 0 ≤ k := fun h9 => c_10 ((nI_leI (a := zLen.getD i 0) (b := k) (zl31 hi) (by have := zl31 hi; omega)).mpr h9)
        refine g_aload_n hX 2 rfl dJ1_indexOfChar_4cfef_13 rfl ?_
        refine g_iload hX 0 rfl dJ1_indexOfChar_4cfef_14 ?_
        refine b_sbyte hX hM (i := i) hi (vp_in_nI (by omega) (zl31 hi)) dJ1_indexOfChar_4cfef_16 ?_
        rw [nI_clamp (by have := zl31 hi; omega)]
        refine g_iload hX 1 rfl dJ1_indexOfChar_4cfef_17 ?_
        refine g_icmp_ne (tgt := 25) hX dJ1_indexOfChar_4cfef_19 (by decide) (fun c_19 => ?_) (fun c_19 => ?_)
        · refine g_iinc hX (nI (k + 1)) [(5, .int (nI (k + 1))), (4, .int ch.toInt8.toInt32), (0, .ref (Z.2.2.1 i)), (1, .int ch), (2, .int 0), (3, .int (nI (zLen.getD i 0)))] (k := 0) rfl (g_inc k) rfl dJ1_indexOfChar_4cfef_25 (by decide) ?_
          refine g_goto (tgt := 7) hX dJ1_indexOfChar_4cfef_28 (by decide) ?_
          refine g_lv [0, 1, 2, 3, 4, 5] rfl ?_
          exact ih_7 (k + 1) (by omega) (by omega) (hf.trans (by rw [show zLen.getD i 0 - k = (zLen.getD i 0 - (k + 1)) + 1 by omega, fix9, if_neg c_19]))
        · refine g_iload hX 0 rfl dJ1_indexOfChar_4cfef_22 ?_
          refine b_iret hX hE dJ1_indexOfChar_4cfef_24 (by omega) (by omega) ?_
          exact ⟨rfl, hf.trans (by rw [show zLen.getD i 0 - k = (zLen.getD i 0 - (k + 1)) + 1 by omega, fix9, if_pos c_19])⟩
  refine g_lv [0, 1, 2, 3, 4, 5] rfl ?_
  exact lp_7 _ 0 (Nat.lt_succ_self _) (Nat.zero_le _) rfl
abbrev rm_J1_indexOf_4cfef : Room := { frames := 1, cells := 0, slots := 0, locals := 25 }
theorem hd_J1_indexOf_4cfef : yJ1_indexOf_4cfef.cls = RJ1 ∧ yJ1_indexOf_4cfef.cls ≠ "java/lang/invoke/MethodHandle" ∧ yJ1_indexOf_4cfef.cls ≠ "java/lang/invoke/VarHandle" ∧ (parseMethodDescriptor yJ1_indexOf_4cfef.desc).map (fun d => d.parameters.length) = some 4 := by decide +kernel
set_option maxRecDepth 100000 in
set_option maxHeartbeats 4000000 in
theorem k_J1_indexOf_4cfef {D : va_G} {dT : Nat → ClassId} {Z : ZT} {K N : Nat → Nat} {I : Nat → Nat → Int32} {Rr : Nat → Nat → Option Nat} {ad : Nat → Nat} {L : List Nat} (i : Nat) (hi : i < 3) (ch : Int32) : ∀ l8, BI l8 yJ1_indexOf_4cfef wsJ1_indexOf_4cfef rm_J1_indexOf_4cfef D (tyl dT) Z ad L (pf dT K N I Rr ad) [.ref (Z.2.2.1 i), .int ch, .int 0, .int (nI (zLen.getD i 0))] 0 0 (fun r u => u = (ad, L, pf dT K N I Rr ad) ∧ (if ch < 0 then -1 else if 255 < ch then -1 else fix9 (zByt.getD i []) ch.toInt8.toInt32 (zLen.getD i 0) 0) = r) := by
  intro l9
  refine bi_of (own := RJ1) (cc := cJ1_indexOf_4cfef) (maxL := 4) (some .int) [(0, .ref (Z.2.2.1 i)), (1, .int ch), (2, .int 0), (3, .int (nI (zLen.getD i 0)))] (by decide) rfl rfl rfl (Nat.le_of_ble_eq_true rfl) ?_
  intro X hX hE hN hM
  have q_w1 : Cond.methodLink RJ1 92 Lib.Math.max.name ∈ wsJ1_indexOf_4cfef := List.mem_of_getElem? (i := 1) rfl
  have q_w2 : Cond.static Lib.Math.max.name ∈ wsJ1_indexOf_4cfef := List.mem_of_getElem? (i := 2) rfl
  have q_w3 : Cond.initialized "java/lang/Math" ∈ wsJ1_indexOf_4cfef := List.mem_of_getElem? (i := 3) rfl
  have q_w4 : Cond.code Lib.Math.max.name Lib.Math.max.code 2 (some .int) ∈ wsJ1_indexOf_4cfef := List.mem_of_getElem? (i := 4) rfl
  have q_w5 : Cond.methodLink RJ1 38 Lib.Math.min.name ∈ wsJ1_indexOf_4cfef := List.mem_of_getElem? (i := 5) rfl
  have q_w6 : Cond.static Lib.Math.min.name ∈ wsJ1_indexOf_4cfef := List.mem_of_getElem? (i := 6) rfl
  have q_w7 : Cond.code Lib.Math.min.name Lib.Math.min.code 2 (some .int) ∈ wsJ1_indexOf_4cfef := List.mem_of_getElem? (i := 7) rfl
  have hz31 := zl31 hi
  refine g_iload_n hX 1 rfl dJ1_indexOf_4cfef_0 rfl ?_
  refine b_callI_S hX hM [.int ch] (k_J1_canEncode_9a6ad ch) gJ1_indexOf_4cfef_J1_canEncode_9a6ad rfl rfl rfl hd_J1_canEncode_9a6ad.2 ⟨Nat.le_of_ble_eq_true rfl, Nat.le_of_ble_eq_true rfl⟩ ⟨Nat.le_of_ble_eq_true rfl, Nat.le_of_ble_eq_true rfl⟩ rfl (Nat.le_of_ble_eq_true rfl) dJ1_indexOf_4cfef_1 (fun r9 ad9 L9 f9 hp9 => ?_)
  obtain ⟨he9, hr9⟩ := hp9
  cases he9
  subst hr9
  refine g_if_ne (tgt := 9) hX dJ1_indexOf_4cfef_4 (by decide) (fun c_4 => ?_) (fun c_4 => ?_)
  · refine g_iload_n hX 2 rfl dJ1_indexOf_4cfef_9 rfl ?_
    refine g_iconst hX (0) dJ1_indexOf_4cfef_10 rfl ?_
    refine g_mmax hX q_w1 q_w2 q_w3 q_w4 (Nat.le_of_ble_eq_true rfl) (Nat.le_of_ble_eq_true rfl) (Nat.le_of_ble_eq_true rfl) (Nat.le_of_ble_eq_true rfl) dJ1_indexOf_4cfef_11 ?_
    refine g_eqi (y := 0) (by decide) ?_
    refine g_istore_n hX [(2, .int 0), (0, .ref (Z.2.2.1 i)), (1, .int ch), (3, .int (nI (zLen.getD i 0)))] rfl dJ1_indexOf_4cfef_14 rfl (by decide) ?_
    refine g_iload_n hX 3 rfl dJ1_indexOf_4cfef_15 rfl ?_
    refine g_aload_n hX 1 rfl dJ1_indexOf_4cfef_16 rfl ?_
    refine b_slen hX hM hi dJ1_indexOf_4cfef_17 ?_
    refine g_mmin hX q_w5 q_w6 q_w3 q_w7 (Nat.le_of_ble_eq_true rfl) (Nat.le_of_ble_eq_true rfl) (Nat.le_of_ble_eq_true rfl) (Nat.le_of_ble_eq_true rfl) dJ1_indexOf_4cfef_18 ?_
    refine g_eqi (y := (nI (zLen.getD i 0))) (mn_self _) ?_
    refine g_istore_n hX [(3, .int (nI (zLen.getD i 0))), (2, .int 0), (0, .ref (Z.2.2.1 i)), (1, .int ch)] rfl dJ1_indexOf_4cfef_21 rfl (by decide) ?_
    refine g_iload_n hX 1 rfl dJ1_indexOf_4cfef_22 rfl ?_
    refine g_iload_n hX 0 rfl dJ1_indexOf_4cfef_23 rfl ?_
    refine g_icmp_lt (tgt := 29) hX dJ1_indexOf_4cfef_24 (by decide) (fun c_24 => ?_) (fun c_24 => ?_)
    · have c_24 : 0 < (zLen.getD i 0) := (nI_ltI (a := 0) (b := (zLen.getD i 0)) (by omega) (by omega)).mp c_24
      refine g_aload_n hX 2 rfl dJ1_indexOf_4cfef_29 rfl ?_
      refine g_iload_n hX 3 rfl dJ1_indexOf_4cfef_30 rfl ?_
      refine g_iload_n hX 1 rfl dJ1_indexOf_4cfef_31 rfl ?_
      refine g_iload_n hX 0 rfl dJ1_indexOf_4cfef_32 rfl ?_
      refine b_callI_S hX hM [.ref (Z.2.2.1 i), .int ch, .int 0, .int (nI (zLen.getD i 0))] (k_J1_indexOfChar_4cfef i hi ch) gJ1_indexOf_4cfef_J1_indexOfChar_4cfef rfl rfl rfl hd_J1_indexOfChar_4cfef.2 ⟨Nat.le_of_ble_eq_true rfl, Nat.le_of_ble_eq_true rfl⟩ ⟨Nat.le_of_ble_eq_true rfl, Nat.le_of_ble_eq_true rfl⟩ rfl (Nat.le_of_ble_eq_true rfl) dJ1_indexOf_4cfef_33 (fun r9 ad9 L9 f9 hp9 => ?_)
      obtain ⟨he9, hr9⟩ := hp9
      cases he9
      subst hr9
      refine b_iret hX hE dJ1_indexOf_4cfef_36 (by omega) (by omega) ?_
      exact ⟨rfl, by by_cases h1 : ch < 0 <;> by_cases h2 : 255 < ch <;> simp [h1, h2] at c_4 ⊢⟩
    · exact absurd (show nI 0 < nI (zLen.getD i 0) from nI_lt (zl0 hi) (zl31 hi)) c_24
  · refine g_iconst hX (-1) dJ1_indexOf_4cfef_7 rfl ?_
    refine b_iret hX hE dJ1_indexOf_4cfef_8 (by omega) (by omega) ?_
    exact ⟨rfl, by by_cases h1 : ch < 0 <;> by_cases h2 : 255 < ch <;> simp [h1, h2] at c_4 ⊢⟩
abbrev rm_J0_indexOf_7cf53 : Room := { frames := 2, cells := 0, slots := 0, locals := 48 }
theorem hd_J0_indexOf_7cf53 : yJ0_indexOf_7cf53.cls = RJ0 ∧ yJ0_indexOf_7cf53.cls ≠ "java/lang/invoke/MethodHandle" ∧ yJ0_indexOf_7cf53.cls ≠ "java/lang/invoke/VarHandle" ∧ (parseMethodDescriptor yJ0_indexOf_7cf53.desc).map (fun d => d.parameters.length) = some 2 := by decide +kernel
set_option maxRecDepth 100000 in
set_option maxHeartbeats 4000000 in
theorem k_J0_indexOf_7cf53 {D : va_G} {dT : Nat → ClassId} {Z : ZT} {K N : Nat → Nat} {I : Nat → Nat → Int32} {Rr : Nat → Nat → Option Nat} {ad : Nat → Nat} {L : List Nat} (i : Nat) (hi : i < 3) (ch : Int32) : ∀ l8, BI l8 yJ0_indexOf_7cf53 wsJ0_indexOf_7cf53 rm_J0_indexOf_7cf53 D (tyl dT) Z ad L (pf dT K N I Rr ad) [.ref (Z.2.1 i), .int ch, .int 0] 0 0 (fun r u => u = (ad, L, pf dT K N I Rr ad) ∧ (if ch < 0 then -1 else if 255 < ch then -1 else fix9 (zByt.getD i []) ch.toInt8.toInt32 (zLen.getD i 0) 0) = r) := by
  intro l9
  refine bi_of (own := RJ0) (cc := cJ0_indexOf_7cf53) (maxL := 3) (some .int) [(0, .ref (Z.2.1 i)), (1, .int ch), (2, .int 0)] (by decide) rfl rfl rfl (Nat.le_of_ble_eq_true rfl) ?_
  intro X hX hE hN hM
  have q_w1 : Cond.fieldLink RJ0 9 "java/lang/String" "value" "[B" ∈ wsJ0_indexOf_7cf53 := List.mem_of_getElem? (i := 1) rfl
  refine g_aload_n hX 0 rfl dJ0_indexOf_7cf53_0 rfl ?_
  refine b_callI_VS hX hM (i := i) hi [] (k_J0_isLatin1_aae02 i hi) gJ0_indexOf_7cf53_J0_isLatin1_aae02 rfl rfl rfl hd_J0_isLatin1_aae02 ⟨Nat.le_of_ble_eq_true rfl, Nat.le_of_ble_eq_true rfl⟩ ⟨Nat.le_of_ble_eq_true rfl, Nat.le_of_ble_eq_true rfl⟩ rfl (Nat.le_of_ble_eq_true rfl) dJ0_indexOf_7cf53_1 (fun r9 ad9 L9 f9 hp9 => ?_)
  obtain ⟨he9, hr9⟩ := hp9
  cases he9
  subst hr9
  refine g_if_eq (tgt := 23) hX dJ0_indexOf_7cf53_4 (by decide) (fun c_4 => ?_) (fun c_4 => ?_)
  · first | exact absurd c_4 (by decide) | exact absurd (by decide) c_4
  · refine g_aload_n hX 0 rfl dJ0_indexOf_7cf53_7 rfl ?_
    refine b_sval hX hM (i := i) hi q_w1 dJ0_indexOf_7cf53_8 ?_
    refine g_iload_n hX 1 rfl dJ0_indexOf_7cf53_11 rfl ?_
    refine g_iload_n hX 2 rfl dJ0_indexOf_7cf53_12 rfl ?_
    refine g_aload_n hX 0 rfl dJ0_indexOf_7cf53_13 rfl ?_
    refine b_callI_VS hX hM (i := i) hi [] (k_J0_length_8abf5 i hi) gJ0_indexOf_7cf53_J0_length_8abf5 rfl rfl rfl hd_J0_length_8abf5 ⟨Nat.le_of_ble_eq_true rfl, Nat.le_of_ble_eq_true rfl⟩ ⟨Nat.le_of_ble_eq_true rfl, Nat.le_of_ble_eq_true rfl⟩ rfl (Nat.le_of_ble_eq_true rfl) dJ0_indexOf_7cf53_14 (fun r9 ad9 L9 f9 hp9 => ?_)
    obtain ⟨he9, hr9⟩ := hp9
    cases he9
    subst hr9
    refine g_eqi (y := nI (zLen.getD i 0)) (zl_sh _) ?_
    refine b_callI_S hX hM [.ref (Z.2.2.1 i), .int ch, .int 0, .int (nI (zLen.getD i 0))] (k_J1_indexOf_4cfef i hi ch) gJ0_indexOf_7cf53_J1_indexOf_4cfef rfl rfl rfl hd_J1_indexOf_4cfef.2 ⟨Nat.le_of_ble_eq_true rfl, Nat.le_of_ble_eq_true rfl⟩ ⟨Nat.le_of_ble_eq_true rfl, Nat.le_of_ble_eq_true rfl⟩ rfl (Nat.le_of_ble_eq_true rfl) dJ0_indexOf_7cf53_17 (fun r9 ad9 L9 f9 hp9 => ?_)
    obtain ⟨he9, hr9⟩ := hp9
    cases he9
    subst hr9
    refine g_goto (tgt := 36) hX dJ0_indexOf_7cf53_20 (by decide) ?_
    refine b_iret hX hE dJ0_indexOf_7cf53_36 (by omega) (by omega) ?_
    exact ⟨rfl, rfl⟩
abbrev rm_J0_indexOf_0f7a4 : Room := { frames := 3, cells := 0, slots := 0, locals := 70 }
theorem hd_J0_indexOf_0f7a4 : yJ0_indexOf_0f7a4.cls = RJ0 ∧ yJ0_indexOf_0f7a4.cls ≠ "java/lang/invoke/MethodHandle" ∧ yJ0_indexOf_0f7a4.cls ≠ "java/lang/invoke/VarHandle" ∧ (parseMethodDescriptor yJ0_indexOf_0f7a4.desc).map (fun d => d.parameters.length) = some 1 := by decide +kernel
set_option maxRecDepth 100000 in
set_option maxHeartbeats 4000000 in
theorem k_J0_indexOf_0f7a4 {D : va_G} {dT : Nat → ClassId} {Z : ZT} {K N : Nat → Nat} {I : Nat → Nat → Int32} {Rr : Nat → Nat → Option Nat} {ad : Nat → Nat} {L : List Nat} (i : Nat) (hi : i < 3) (ch : Int32) : ∀ l8, BI l8 yJ0_indexOf_0f7a4 wsJ0_indexOf_0f7a4 rm_J0_indexOf_0f7a4 D (tyl dT) Z ad L (pf dT K N I Rr ad) [.ref (Z.2.1 i), .int ch] 0 0 (fun r u => u = (ad, L, pf dT K N I Rr ad) ∧ (if ch < 0 then -1 else if 255 < ch then -1 else fix9 (zByt.getD i []) ch.toInt8.toInt32 (zLen.getD i 0) 0) = r) := by
  intro l9
  refine bi_of (own := RJ0) (cc := cJ0_indexOf_0f7a4) (maxL := 2) (some .int) [(0, .ref (Z.2.1 i)), (1, .int ch)] (by decide) rfl rfl rfl (Nat.le_of_ble_eq_true rfl) ?_
  intro X hX hE hN hM
  refine g_aload_n hX 0 rfl dJ0_indexOf_0f7a4_0 rfl ?_
  refine g_iload_n hX 1 rfl dJ0_indexOf_0f7a4_1 rfl ?_
  refine g_iconst hX (0) dJ0_indexOf_0f7a4_2 rfl ?_
  refine b_callI_VS hX hM (i := i) hi [.int ch, .int 0] (k_J0_indexOf_7cf53 i hi ch) gJ0_indexOf_0f7a4_J0_indexOf_7cf53 rfl rfl rfl hd_J0_indexOf_7cf53 ⟨Nat.le_of_ble_eq_true rfl, Nat.le_of_ble_eq_true rfl⟩ ⟨Nat.le_of_ble_eq_true rfl, Nat.le_of_ble_eq_true rfl⟩ rfl (Nat.le_of_ble_eq_true rfl) dJ0_indexOf_0f7a4_3 (fun r9 ad9 L9 f9 hp9 => ?_)
  obtain ⟨he9, hr9⟩ := hp9
  cases he9
  subst hr9
  refine b_iret hX hE dJ0_indexOf_0f7a4_6 (by omega) (by omega) ?_
  exact ⟨rfl, rfl⟩
