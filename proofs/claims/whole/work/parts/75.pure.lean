/-! the relation: a valve's step, all valves -/
theorem lgn_c {J Q : Nat → Nat → Int32} {S : SZ} (h : RLo J Q S) : lgn J = S.2.2.1 := by
  unfold lgn; rw [h.1, nI_clamp (by have := h.2.1; omega)]
theorem st_v {J Q : Nat → Nat → Int32} {S : SZ} {r v : Nat} {h p : Int32} (w : RRow J Q S r) (hix : IXP Q S) (hv : v < 12) (hh : h = 0 ∨ h = 1) (hp : J 3 11 = p) : RRow (mv3 (mvV J v h) v) (mvM Q S v h p) (mvz Q S v h p) r := by
  have w1 := st1 w hv hh
  have hp1 : mvV J v h 3 11 = p := (mvV_3 (by decide)).trans hp
  have hix1 : ¬ moB Q v h (20 + v) 7 = 0 → ¬ moB Q v h (20 + v) 8 < 0 → ∃ n, n < S.2.2.1 ∧ moB Q v h (20 + v) 8 = nI n := fun a b => by
    have e8 : moB Q v h (20 + v) 8 = Q (20 + v) 8 := by rw [moB_v (by decide) (by decide) (by decide), moA_v (by decide) (by decide) (by decide)]
    rw [e8] at b ⊢
    exact hix v hv (moB_7n a) b
  unfold mvM mvz
  show RRow _ (if goJ (moCf (moB Q v h) v p) v = 0 then moCf (moB Q v h) v p else bgM (moCf (moB Q v h) v p) S v) (if goJ (moCf (moB Q v h) v p) v = 0 then S else bgz S) r
  rw [goJ_C hv]
  generalize mvV J v h = K at w1 hp1 ⊢
  generalize moB Q v h = P at w1 hix1 ⊢
  have hag := anw_go w1 hv
  have hL := w1.2.2.2.2.2.1
  have hlg := lgn_c hL
  obtain ⟨ho, hc, ht⟩ := w1.2.2.2.2.2.2 v hv
  unfold mv3
  by_cases hg : goJ P v = 0
  · rw [if_pos hg, if_pos hg, if_pos (hag.mpr hg)]
    unfold mv2
    rw [if_pos (hag.mpr hg), hp1]
    unfold moCf
    rcases ht with ⟨t1, t2, t3, t4⟩ | ⟨t1, t2, t3, t4⟩ | ⟨t1, t2, t3, t4⟩
    · rw [t1, t3, if_pos rfl, if_neg (show ¬ (0 : Int32) = 2 by decide)]; exact w1
    · rw [t1, t3, if_pos rfl, if_neg (show ¬ (1 : Int32) = 2 by decide)]; exact w1
    · rw [t1, t3, if_neg n10, if_pos rfl]
      by_cases hp0 : p = 0
      · rw [if_pos hp0, if_pos hp0]
        exact st_end w1 hv t4 (hix1 (by rw [t1]; decide))
      · rw [if_neg hp0, if_neg hp0]; exact w1
  · have hoo := go_open hg
    rw [if_neg hg, if_neg hg, if_neg (fun z => hg (hag.mp z))]
    unfold mv2
    rw [if_neg (fun z => hg (hag.mp z))]
    rcases ht with ⟨t1, t2, t3, t4⟩ | ⟨t1, t2, t3, t4⟩ | ⟨t1, t2, t3, t4⟩
    · have eC : moCf P v p = P := by unfold moCf; rw [t1, if_neg (show ¬ (0 : Int32) = 2 by decide)]
      rw [t3, if_pos rfl, eC, hlg]
      exact st_beg w1 hv t1 t3 hoo.1
    · exact absurd t1 hoo.2
    · have w2 := st_end w1 hv t4 (hix1 (by rw [t1]; decide))
      have hlg2 := lgn_c w2.2.2.2.2.2.1
      have e9 : bgM (moCf P v p) S v = bgM (endI P v) S v := by
        unfold moCf
        rw [if_pos t1]
        by_cases hp0 : p = 0
        · rw [if_pos hp0]
        · rw [if_neg hp0]; exact bgM_end hv t1
      rw [t3, if_neg n10, e9, hlg2]
      exact st_beg w2 hv endI_7 enH_3v.2.1 (by rw [endI_v (by decide) hv]; exact hoo.1)
theorem ffd_ho {J Q : Nat → Nat → Int32} {x : Nat} (hx : x < 65536) (hv : RVa J Q) (h7 : ∀ t, t < 16 → Q 7 t = nI (bt x t)) : ∀ k, k ≤ 12 → ∃ y, y < 4096 ∧ ffd J (nI x) k = nI y ∧ ∀ v, v < 12 → hoV Q v k = nI (bt y v)
  | 0, _ => ⟨0, by decide, rfl, fun v _ => by rw [bt_0]; rfl⟩
  | k + 1, hk => by
    obtain ⟨y, hy, e1, e2⟩ := ffd_ho hx hv h7 k (by omega)
    obtain ⟨hb, -, w, hw, e3⟩ := hv k (by omega)
    unfold ffd hoV
    rw [ir_nI hx (by omega), h7 k (by omega), hb 3 (by decide), e3, e1]
    by_cases q : bt x k = 0
    · rw [q, if_pos (show nI 0 = 0 from rfl), if_pos (show nI 0 = 0 from rfl)]
      refine ⟨y, hy, rfl, fun v hv2 => ?_⟩
      rw [e2 v hv2]
      have e0 : (if nI w = nI v then (0 : Int32) else 0) = 0 := by split <;> rfl
      rw [e0]; exact Int32.or_zero
    · have q1 := (bt_01 x k).resolve_left q
      rw [q1, if_neg (show ¬ nI 1 = 0 by decide), if_neg (show ¬ nI 1 = 0 by decide), one_shl w (by omega)]
      have h2 : 2 ^ w < 4096 := Nat.lt_of_lt_of_le (Nat.pow_lt_pow_right (by decide) hw) (by decide)
      refine ⟨y ||| 2 ^ w, Nat.or_lt_two_pow (n := 12) hy h2, nI_or (by omega) (by omega), fun v hv2 => ?_⟩
      rw [e2 v hv2, bt_or, bt_p2]
      by_cases d : w = v
      · rw [if_pos (congrArg nI d), if_pos d.symm, if_neg (show ¬ (1 : Nat) = 0 by decide)]
        rcases bt_01 y v with z | z <;> rw [z] <;> rfl
      · have dd : ¬ v = w := fun z => d z.symm
        rw [if_neg (fun z => d (nI_inj (by omega) (by omega) z)), if_neg dd, if_pos rfl]; exact Int32.or_zero
theorem mvM_b {Q : Nat → Nat → Int32} {S : SZ} {v w b : Nat} {h p : Int32} (hv : v < 12) (hw : w < 12) (hb : b < 4) : mvM Q S v h p (20 + w) b = Q (20 + w) b := by
  by_cases e : w = v
  · subst e
    unfold mvM
    split
    · rw [moC_v (by omega) hv, moB_v (by omega) (by omega) (by omega), moA_v (by omega) (by omega) (by omega)]
    · rw [bgM_v hv (by omega) (by omega), moC_v (by omega) hv, moB_v (by omega) (by omega) (by omega), moA_v (by omega) (by omega) (by omega)]
  · rw [mvM_r (by omega) (by omega) (by omega) (by omega)]
theorem plS_b {A : Nat → Nat → Int32} {S : SZ} : ∀ k, k ≤ 12 → (∀ w b, w < 12 → b < 4 → (plS A S k).1 (20 + w) b = A (20 + w) b) ∧ (plS A S k).1 7 = A 7
  | 0, _ => ⟨fun _ _ _ _ => rfl, rfl⟩
  | k + 1, hk => by
    have ih := plS_b (A := A) (S := S) k (by omega)
    rw [plS_s]
    generalize plS A S k = P at ih ⊢
    generalize hoV P.1 k 12 = h
    dsimp only
    obtain ⟨i1, i2⟩ := ih
    constructor
    · intro w b hw hb
      rw [mvM_b (show k < 12 by omega) hw hb]
      exact i1 w b hw hb
    · rw [mvM_r (a := 7) (by omega) (by omega) (by omega) (by omega)]
      exact i2
theorem hoV_c {A B : Nat → Nat → Int32} {v : Nat} (h1 : ∀ w, w < 12 → B (20 + w) 3 = A (20 + w) 3) (h2 : B 7 = A 7) : ∀ k, k ≤ 12 → hoV B v k = hoV A v k
  | 0, _ => rfl
  | k + 1, hk => by unfold hoV; rw [hoV_c h1 h2 k (by omega), h1 k (by omega), h2]
/-- all valves -/
theorem st_all {a A : Nat → Nat → Int32} {S : SZ} {r x : Nat} (w : RRow a A S r) (hP : PI A S) (hx : x < 65536) (h7 : ∀ t, t < 16 → A 7 t = nI (bt x t)) (hp : a 3 11 = ir (nI x) 12) : ∀ k, k ≤ 12 → RRow (mvs a (ffd a (nI x) 12) k) (plS A S k).1 (plS A S k).2 r
  | 0, _ => w
  | k + 1, hk => by
    have ih := st_all w hP hx h7 hp k (by omega)
    have hb := plS_b (A := A) (S := S) k (by omega)
    have hPk := plS_PI hP k (by omega)
    obtain ⟨y, hy, e1, e2⟩ := ffd_ho hx w.2.2.2.1 h7 12 (Nat.le_refl _)
    have e3 : hoV (plS A S k).1 k 12 = ir (ffd a (nI x) 12) (nI k) := by
      rw [hoV_c (A := A) (fun w hw => hb.1 w 3 hw (by decide)) hb.2 12 (Nat.le_refl _), e1, ir_nI (by omega) (by omega), e2 k (by omega)]
    have e12 : (12 : Int32) = nI 12 := rfl
    have e4 : (plS A S k).1 7 12 = mvs a (ffd a (nI x) 12) k 3 11 := by
      rw [hb.2, mvs_3 (by decide) (by decide), hp, h7 12 (by decide), e12, ir_nI hx (by decide)]
    have e5 : mvs a (ffd a (nI x) 12) (k + 1) = mv3 (mvV (mvs a (ffd a (nI x) 12) k) k (ir (ffd a (nI x) 12) (nI k))) k := rfl
    rw [plS_s, e3, e4, e5]
    dsimp only
    clear e1 e2 e3 e4 e5 hb hp h7 w hP
    generalize ffd a (nI x) 12 = fd at ih ⊢
    generalize plS A S k = P at ih hPk ⊢
    generalize mvs a fd k = K at ih ⊢
    have h01 : ir fd (nI k) = 0 ∨ ir fd (nI k) = 1 := by
      unfold ir; split
      · exact Or.inl rfl
      · exact Or.inr rfl
    exact st_v (p := K 3 11) ih hPk.2.2.2.2 (show k < 12 by omega) h01 rfl
