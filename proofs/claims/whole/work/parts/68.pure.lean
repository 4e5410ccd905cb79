/-! the relation: scan, isMusic -/
theorem shr1_bt {x t : Nat} (hx : x < 65536) (ht : t < 16) : (nI x >>> (nI t &&& 31)) &&& 1 = nI (bt x t) := by
  rw [pk_shrN (by omega) _ t (sh31 t ht), pk_andN (n := x / 2 ^ t) (Nat.lt_of_le_of_lt (Nat.div_le_self _ _) (by omega)) 1 (by decide), show 2 ^ 1 = 2 from rfl, bt_div]
def frT (M : Nat → Nat → Int32) (j r : Nat) : Nat → Nat → List N3
  | 0, _ => []
  | n + 1, k => stL M j r k ++ frT M j r n (k + 1)
theorem frT_scT (M : Nat → Nat → Int32) (j r : Nat) : ∀ n k, scT M j r [] k ++ frT M j r n k = scT M j r [] (k + n)
  | 0, k => List.append_nil _
  | n + 1, k => by
    unfold frT
    rw [← List.append_assoc, ← scT_s, frT_scT M j r n (k + 1), show k + 1 + n = k + (n + 1) by omega]
def frA (M : Nat → Nat → Int32) (j : Nat) : Nat → Nat → List N3
  | 0, _ => []
  | n + 1, k => scT M j k [] 12 ++ frA M j n (k + 1)
theorem frA_scA (M : Nat → Nat → Int32) (j : Nat) : ∀ n k, scA M j k ++ frA M j n k = scA M j (k + n)
  | 0, k => List.append_nil _
  | n + 1, k => by
    unfold frA
    rw [← List.append_assoc, ← scA_s, frA_scA M j n (k + 1), show k + 1 + n = k + (n + 1) by omega]
theorem gdl {a b : List N3} {i : Nat} {d : N3} (h : i < a.length) : (a ++ b).getD i d = a.getD i d := by
  simp [List.getD, List.getElem?_append_left h]
theorem gdr {a b : List N3} {i : Nat} {d : N3} (h : a.length ≤ i) : (a ++ b).getD i d = b.getD (i - a.length) d := by
  simp [List.getD, List.getElem?_append_right h]
theorem gdm {a : List N3} {i : Nat} {d : N3} (h : i < a.length) : a.getD i d ∈ a := by
  simp [List.getD, List.getElem?_eq_getElem h]
theorem mgd {a : List N3} {z d : N3} (h : z ∈ a) : ∃ i, i < a.length ∧ a.getD i d = z := by
  obtain ⟨i, hi, e⟩ := List.getElem_of_mem h
  exact ⟨i, hi, by simp [List.getD, List.getElem?_eq_getElem hi, e]⟩
theorem fbit_fr {M : Nat → Nat → Int32} {j r y : Nat} (hy : y < 4096) (hb : ∀ t, t < 12 → bt y t = stN M j r t) : ∀ n k left, n + k = 12 → left < (frT M j r n k).length → fbit (nI y) n k (nI left) = nI ((frT M j r n k).getD left (0, 0, 0)).2.2
  | 0, k, left, _, h => absurd h (Nat.not_lt_zero _)
  | n + 1, k, left, hk, h => by
    unfold fbit
    rw [shr1_bt (by omega) (by omega), hb k (by omega)]
    have e9 : frT M j r (n + 1) k = stL M j r k ++ frT M j r n (k + 1) := rfl
    rw [e9] at h ⊢
    unfold stL at h ⊢
    rcases stN_01 M j r k with e | e
    · rw [e, if_pos rfl, List.nil_append] at h ⊢
      rw [if_pos (show nI 0 = 0 from rfl)]
      exact fbit_fr hy hb n (k + 1) left (by omega) h
    · rw [e, if_neg (show ¬ (1 : Nat) = 0 by decide)] at h ⊢
      rw [if_neg (show ¬ nI 1 = 0 by decide)]
      cases left with
      | zero => rw [if_pos (show nI 0 = 0 from rfl)]; rfl
      | succ m =>
        have hm : m < (frT M j r n (k + 1)).length := by
          have : (m + 1) < (frT M j r n (k + 1)).length + 1 := by
            have q : ([itN M j r k] ++ frT M j r n (k + 1)).length = (frT M j r n (k + 1)).length + 1 := rfl
            omega
          omega
        have hl : (frT M j r n (k + 1)).length ≤ 12 := by
          have h1 := frT_scT M j r n (k + 1)
          have h2 := congrArg List.length h1
          rw [List.length_append, scT_ln, scT_ln] at h2
          have h3 := sumN_le (f := stN M j r) (b := 1) (k + 1 + n) (fun t _ => by rcases stN_01 M j r t with e | e <;> omega)
          omega
        rw [if_neg (nI_ne0 (by omega) (by omega)), pk_m1, fbit_fr hy hb n (k + 1) m (by omega) hm]
        rfl
theorem fnw_fr {I M : Nat → Nat → Int32} {S : SZ} (h : RR I M S) {j : Nat} (hj : j < S.1) : ∀ n k left, n + k = 200 → left < 2 ^ 31 → fnw I j n k (nI left) = if left < (frA M j n k).length then nI (((frA M j n k).getD left (0, 0, 0)).1 * 16 + ((frA M j n k).getD left (0, 0, 0)).2.2) else -1
  | 0, k, left, _, _ => (if_neg (Nat.not_lt_zero _)).symm
  | n + 1, k, left, hk, hl => by
    unfold fnw
    have e9 : frA M j (n + 1) k = scT M j k [] 12 ++ frA M j n (k + 1) := rfl
    have hb := bcnt_fb h hj (show k < 200 by omega)
    rw [← scT_ln] at hb
    have h12 : (scT M j k [] 12).length ≤ 12 := by
      rw [scT_ln]
      exact sumN_le (b := 1) 12 (fun t _ => by rcases stN_01 M j k t with e | e <;> omega)
    rw [hb, e9, List.length_append]
    by_cases c : (scT M j k [] 12).length ≤ left
    · rw [if_pos ((nI_leI (by omega) hl).mpr c), pk_sub c, fnw_fr h hj n (k + 1) _ (by omega) (by omega), gdr c]
      by_cases w : left - (scT M j k [] 12).length < (frA M j n (k + 1)).length
      · rw [if_pos w, if_pos (by omega)]
      · rw [if_neg w, if_neg (by omega)]
    · rw [if_neg (fun z => c ((nI_leI (by omega) hl).mp z)), if_pos (by omega), gdl (by omega)]
      obtain ⟨y, hy, e, f⟩ := fb_st h hj (show k < 200 by omega)
      have e0 : frT M j k 12 0 = scT M j k [] 12 := by
        have := frT_scT M j k 12 0
        exact this
      have h1 := fbit_fr hy f 12 0 left rfl (by rw [e0]; omega)
      rw [e0] at h1
      rw [e, h1]
      have hm := (scT_mem M j k _ 12).mp (gdm (d := (0, 0, 0)) (show left < (scT M j k [] 12).length by omega))
      rw [hm.1, show (16 : Int32) = nI 16 from rfl, pk_mul, nI_add]
theorem fnote_sc {I M : Nat → Nat → Int32} {S : SZ} (h : RR I M S) {j : Nat} (hj : j < S.1) (x : Int32) : (isi x 0 (nI (scA M j 200).length - 1) = 0 ∧ fnote I j x = -1) ∨ ∃ m, m < (scA M j 200).length ∧ x = nI m ∧ ¬ isi x 0 (nI (scA M j 200).length - 1) = 0 ∧ fnote I j x = nI (((scA M j 200).getD m (0, 0, 0)).1 * 16 + ((scA M j 200).getD m (0, 0, 0)).2.2) := by
  have e0 : frA M j 200 0 = scA M j 200 := frA_scA M j 200 0
  have hle := scA_le M j
  by_cases h0 : x < 0
  · refine Or.inl ⟨by unfold isi; rw [if_pos h0], ?_⟩
    unfold fnote
    rw [if_neg (fun z => by rw [Int32.lt_iff_toInt_lt] at h0; rw [Int32.le_iff_toInt_le] at z; omega)]
  · obtain ⟨m, hm, rfl⟩ := nI_of h0
    have e1 : fnote I j (nI m) = fnw I j 200 0 (nI m) := if_pos (nI_pos' hm)
    rw [e1, fnw_fr h hj 200 0 m rfl hm, e0]
    generalize scA M j 200 = xs at hle ⊢
    have e2 : (nI xs.length - 1 < nI m) ↔ xs.length ≤ m := by
      rcases Nat.eq_zero_or_pos xs.length with q | q
      · rw [q]
        refine ⟨fun _ => Nat.zero_le _, fun _ => ?_⟩
        rw [Int32.lt_iff_toInt_lt, nI_toInt hm]
        have : (nI 0 - 1).toInt = -1 := by decide
        omega
      · obtain ⟨k, hk⟩ : ∃ k, xs.length = k + 1 := ⟨xs.length - 1, by omega⟩
        rw [hk, nI_pred, nI_ltI (by omega) hm]
        omega
    by_cases c : m < xs.length
    · refine Or.inr ⟨m, c, rfl, ?_, if_pos c⟩
      unfold isi
      rw [if_neg (nI_pos hm), if_neg (fun z => by have := e2.mp z; omega)]
      decide
    · refine Or.inl ⟨?_, if_neg c⟩
      unfold isi
      rw [if_neg (nI_pos hm), if_pos (e2.mpr (by omega))]
theorem sc_let : ∀ n, n < 256 → (n = 102 ∧ ixS 0 (nI n) = 0) ∨ (n = 108 ∧ ixS 0 (nI n) = 1) ∨ (n = 112 ∧ ixS 0 (nI n) = 2) ∨ (n ≠ 102 ∧ n ≠ 108 ∧ n ≠ 112 ∧ ixS 0 (nI n) < 0) := by decide +kernel
theorem w_small {w : Int32} (h1 : ¬ w < 0) (h2 : ¬ 255 < w) : ∃ n, n < 256 ∧ w = nI n := by
  obtain ⟨n, hn, rfl⟩ := nI_of h1
  refine ⟨n, ?_, rfl⟩
  rcases Nat.lt_or_ge n 256 with q | q
  · exact q
  · exact absurd ((gt_L (c := 255) (n := 255) rfl hn (by decide)).mpr (by omega)) h2
theorem ix_0 (w : Int32) : (w = 102 ∧ ixS 0 w = 0) ∨ (w = 108 ∧ ixS 0 w = 1) ∨ (w = 112 ∧ ixS 0 w = 2) ∨ (¬ (w = 102 ∨ w = 108 ∨ w = 112) ∧ ixS 0 w < 0) := by
  by_cases h1 : w < 0
  · refine Or.inr (Or.inr (Or.inr ⟨?_, by unfold ixS; rw [if_pos h1]; decide⟩))
    rintro (rfl | rfl | rfl) <;> exact absurd h1 (by decide)
  · by_cases h2 : 255 < w
    · refine Or.inr (Or.inr (Or.inr ⟨?_, by unfold ixS; rw [if_neg h1, if_pos h2]; decide⟩))
      rintro (rfl | rfl | rfl) <;> exact absurd h2 (by decide)
    · obtain ⟨n, hn, rfl⟩ := w_small h1 h2
      rcases sc_let n hn with ⟨rfl, e⟩ | ⟨rfl, e⟩ | ⟨rfl, e⟩ | ⟨a, b, c, e⟩
      · exact Or.inl ⟨rfl, e⟩
      · exact Or.inr (Or.inl ⟨rfl, e⟩)
      · exact Or.inr (Or.inr (Or.inl ⟨rfl, e⟩))
      · refine Or.inr (Or.inr (Or.inr ⟨?_, e⟩))
        rintro (q | q | q)
        · exact a (nI_inj (by omega) (by decide) q)
        · exact b (nI_inj (by omega) (by decide) q)
        · exact c (nI_inj (by omega) (by decide) q)
theorem c_sc {I M : Nat → Nat → Int32} {S : SZ} (h : RR I M S) (v x w : Int32) : scC S M v x w = nI (ksc I v x w) := by
  unfold scC ksc
  rw [← rp_isi h.1 h.2.1]
  by_cases h1 : rp I v = 0
  · rw [if_pos h1, if_pos h1]; rfl
  · rw [if_neg h1, if_neg h1]
    obtain ⟨j, hj, hj4, rfl, e⟩ := k_r h h1
    rw [e]
    have hw : (ixS 0 w < 0) = ¬ (w = 102 ∨ w = 108 ∨ w = 112) := by
      rcases ix_0 w with ⟨rfl, q⟩ | ⟨rfl, q⟩ | ⟨rfl, q⟩ | ⟨a, q⟩
      · rw [q]; exact propext ⟨fun z => absurd z (by decide), fun z => absurd (Or.inl rfl) z⟩
      · rw [q]; exact propext ⟨fun z => absurd z (by decide), fun z => absurd (Or.inr (Or.inl rfl)) z⟩
      · rw [q]; exact propext ⟨fun z => absurd z (by decide), fun z => absurd (Or.inr (Or.inr rfl)) z⟩
      · exact propext ⟨fun _ => a, fun _ => q⟩
    by_cases h2 : w = 102 ∨ w = 108 ∨ w = 112
    · rw [if_neg (show ¬ ixS 0 w < 0 by rw [hw]; exact fun z => z h2), if_pos h2]
      rcases fnote_sc h hj x with ⟨a, b⟩ | ⟨m, hm, rfl, a, b⟩
      · rw [a, b, if_pos rfl, if_pos rfl]; rfl
      · rw [if_neg a, b, if_neg]; rfl
        have hz := (scA_mem M j _ 200).mp (gdm (d := (0, 0, 0)) hm)
        intro z
        have h9 := nI_pos (n := ((scA M j 200).getD m (0, 0, 0)).1 * 16 + ((scA M j 200).getD m (0, 0, 0)).2.2) (by have := hz.1; have := hz.2.1; omega)
        rw [z] at h9; exact h9 (by decide)
    · rw [if_pos (show ixS 0 w < 0 by rw [hw]; exact h2), if_neg h2]; rfl
theorem s_scan {I M : Nat → Nat → Int32} {S : SZ} (h : RR I M S) {v x w : Int32} (q : ksc I v x w = 0) : scv I v x w = scq (scA M v.toNatClampNeg 200) x.toNatClampNeg (ixS 0 w).toNatClampNeg := by
  unfold ksc at q
  by_cases h1 : rp I v = 0
  · rw [if_pos h1] at q; cases q
  · rw [if_neg h1] at q
    obtain ⟨j, hj, hj4, rfl, e⟩ := k_r h h1
    rw [e] at q
    by_cases h2 : w = 102 ∨ w = 108 ∨ w = 112
    · rw [if_pos h2] at q
      have hle := scA_le M j
      rcases fnote_sc h hj x with ⟨a, b⟩ | ⟨m, hm, rfl, a, b⟩
      · rw [b, if_pos rfl] at q; cases q
      · have hz := (scA_mem M j _ 200).mp (gdm (d := (0, 0, 0)) hm)
        rw [e, nI_clamp (n := m) (by omega)]
        unfold scv
        rw [e, b]
        obtain ⟨z1, z2, z3, z4⟩ := hz
        have z5 : ((scA M j 200).getD m (0, 0, 0)).2.1 = lsF M j ((scA M j 200).getD m (0, 0, 0)).1 ((scA M j 200).getD m (0, 0, 0)).2.2 - ((scA M j 200).getD m (0, 0, 0)).1 + 1 := congrArg (fun z => z.2.1) z4
        rcases ix_0 w with ⟨rfl, q1⟩ | ⟨rfl, q1⟩ | ⟨rfl, q1⟩ | ⟨a1, q1⟩
        · rw [q1, if_pos rfl, d16 z1 z2]; rfl
        · rw [q1, if_neg (by decide), if_neg (by decide)]
          show _ = nI ((scA M j 200).getD m (0, 0, 0)).2.1
          rw [z5, d16 z1 z2, nI_clamp (n := ((scA M j 200).getD m (0, 0, 0)).1) (by omega)]
          have e16 : nI (((scA M j 200).getD m (0, 0, 0)).1 * 16 + ((scA M j 200).getD m (0, 0, 0)).2.2) - nI ((scA M j 200).getD m (0, 0, 0)).1 * 16 = nI ((scA M j 200).getD m (0, 0, 0)).2.2 := by
            have := r16 z1 z2
            rw [d16 z1 z2] at this
            exact this
          have hm0 : ¬ M (6000 + 200 * j + ((scA M j 200).getD m (0, 0, 0)).1) ((scA M j 200).getD m (0, 0, 0)).2.2 = 0 := fun z => by
            unfold stN at z3; rw [if_pos z] at z3; cases z3
          have hls := lsF_in M j ((scA M j 200).getD m (0, 0, 0)).2.2 z1
          rw [e16, mnw_lsF h hj (by omega) z1 hm0, pk_sub hls.1, nI_1]
        · rw [q1, if_neg (by decide), if_pos rfl, r16 z1 z2]; rfl
        · exact absurd h2 a1
    · rw [if_neg h2] at q; cases q
