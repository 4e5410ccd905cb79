/-! the reference's lists: iterators, adding, other forms of a post -/
theorem met_imp {l : Launch} {y : MethodName} {ws : List Cond} {rm : Room} {Pc : Array Value → State → Prop} {Qc Qc2 : Array Value → State → Outcome → State → Prop} {mc ms : Nat} {free : Addr → Prop} (h : Met l y ws rm Pc Qc mc ms free) (hq : ∀ a st o t, Qc a st o t → Qc2 a st o t) : Met l y ws rm Pc Qc2 mc ms free := by
  intro p e ha hc hk s m args below hf happ hP hK
  obtain ⟨n, o, h1, h2, h3, h4, hL⟩ := h p e ha hc hk s m args below hf happ hP hK
  exact ⟨n, o, h1, h2, h3, hq _ _ _ _ h4, hL⟩
theorem met_pre {l : Launch} {y : MethodName} {ws : List Cond} {rm : Room} {Pc Pc2 : Array Value → State → Prop} {Qc : Array Value → State → Outcome → State → Prop} {mc ms : Nat} {free : Addr → Prop} (h : Met l y ws rm Pc Qc mc ms free) (hq : ∀ a st, Pc2 a st → Pc a st) : Met l y ws rm Pc2 Qc mc ms free := by
  intro p e ha hc hk s m args below hf happ hP hK
  exact h p e ha hc hk s m args below hf happ (hq _ _ hP) hK
/-- one world for another: fewer names, other contents that are the same there -/
def UC (u u2 : UA) : Prop := (∀ i ∈ u2.2.1, i ∈ u.2.1) ∧ u2.2.1.Nodup ∧ ∀ i ∈ u2.2.1, u2.1 i = u.1 i ∧ u2.2.2 i = u.2.2 i
theorem pw_eq {ad ad2 : Nat → Nat} {L : List Nat} {f g : Nat → va_E} (h : ∀ i ∈ L, ad2 i = ad i ∧ g i = f i) : pw ad2 L g = pw ad L f := by
  unfold pw
  apply List.map_congr_left
  intro i hi
  rw [(h i hi).1, (h i hi).2]
theorem AW_uc {D : va_G} {tys : List (ClassId × FieldType)} {A : Nat → Prop} {u u2 : UA} {t : State} (h : AW D tys A u t) (c : UC u u2) : AW D tys A u2 t := by
  obtain ⟨hP, hK, hD⟩ := h
  obtain ⟨hs, hn, hf⟩ := c
  refine ⟨?_, hK, ?_⟩
  · rw [pw_eq hf]; exact pw_P hP hs
  · rw [pw_eq hf]; exact pw_D hD hs hn
theorem bi_imp {l : Launch} {y : MethodName} {ws : List Cond} {rm : Room} {D : va_G} {tys : List (ClassId × FieldType)} {Z : ZT} {ad : Nat → Nat} {L : List Nat} {f : Nat → va_E} {av : List Value} {mc ms : Nat} {post post2 : Int32 → UA → Prop} (h : BI l y ws rm D tys Z ad L f av mc ms post) (hq : ∀ r u, post r u → ∃ u2, UC u u2 ∧ post2 r u2) : BI l y ws rm D tys Z ad L f av mc ms post2 := by
  intro sz
  refine met_imp (h sz) ?_
  rintro a st o t ⟨⟨r, u, e1, hp, hW⟩, hF⟩
  obtain ⟨u2, c, hp2⟩ := hq r u hp
  exact ⟨⟨r, u2, e1, hp2, AW_uc hW c⟩, hF⟩
theorem bq_imp {l : Launch} {y : MethodName} {ws : List Cond} {rm : Room} {D : va_G} {tys : List (ClassId × FieldType)} {Z : ZT} {ad : Nat → Nat} {L : List Nat} {f : Nat → va_E} {av : List Value} {mc ms : Nat} {post post2 : Option Nat → UA → Prop} (h : BQ l y ws rm D tys Z ad L f av mc ms post) (hq : ∀ r u, post r u → ∃ u2, UC u u2 ∧ post2 r u2) : BQ l y ws rm D tys Z ad L f av mc ms post2 := by
  intro sz
  refine met_imp (h sz) ?_
  rintro a st o t ⟨⟨r, u, e1, hp, hW⟩, hF⟩
  obtain ⟨u2, c, hp2⟩ := hq r u hp
  exact ⟨⟨r, u2, e1, hp2, AW_uc hW c⟩, hF⟩
theorem bv_imp {l : Launch} {y : MethodName} {ws : List Cond} {rm : Room} {D : va_G} {tys : List (ClassId × FieldType)} {Z : ZT} {ad : Nat → Nat} {L : List Nat} {f : Nat → va_E} {av : List Value} {mc ms : Nat} {post post2 : UA → Prop} (h : BV l y ws rm D tys Z ad L f av mc ms post) (hq : ∀ u, post u → ∃ u2, UC u u2 ∧ post2 u2) : BV l y ws rm D tys Z ad L f av mc ms post2 := by
  intro sz
  refine met_imp (h sz) ?_
  rintro a st o t ⟨⟨u, e1, hp, hW⟩, hF⟩
  obtain ⟨u2, c, hp2⟩ := hq u hp
  exact ⟨⟨u2, e1, hp2, AW_uc hW c⟩, hF⟩
theorem bi_f {l : Launch} {y : MethodName} {ws : List Cond} {rm : Room} {D : va_G} {tys : List (ClassId × FieldType)} {Z : ZT} {ad : Nat → Nat} {L : List Nat} {f g : Nat → va_E} {av : List Value} {mc ms : Nat} {post : Int32 → UA → Prop} (hf : ∀ i ∈ L, f i = g i) (h : BI l y ws rm D tys Z ad L f av mc ms post) : BI l y ws rm D tys Z ad L g av mc ms post := by
  intro sz
  have h1 := h sz
  unfold PM PP at h1 ⊢
  rw [pw_congr hf] at h1
  exact h1
theorem bq_f {l : Launch} {y : MethodName} {ws : List Cond} {rm : Room} {D : va_G} {tys : List (ClassId × FieldType)} {Z : ZT} {ad : Nat → Nat} {L : List Nat} {f g : Nat → va_E} {av : List Value} {mc ms : Nat} {post : Option Nat → UA → Prop} (hf : ∀ i ∈ L, f i = g i) (h : BQ l y ws rm D tys Z ad L f av mc ms post) : BQ l y ws rm D tys Z ad L g av mc ms post := by
  intro sz
  have h1 := h sz
  unfold PM PP at h1 ⊢
  rw [pw_congr hf] at h1
  exact h1
/-- a list l of s members that are named from b on -/
def LV (L : List Nat) (R : Nat → Nat → Option Nat) (M : Nat → Nat → Int32) (l s b : Nat) : Prop := l ∈ L ∧ mK l = 3 ∧ M l 2 = nI s ∧ s < 100000 ∧ (0 < s → ∃ e, e ∈ L ∧ mK e = 25 ∧ R l 1 = some e ∧ s ≤ mN e ∧ mN e < 2 ^ 31 ∧ ∀ k, k < s → R e k = some (b + k))
def itM (M : Nat → Nat → Int32) (t l k : Nat) : Nat → Nat → Int32 := fun a => if a = t then (fun b => if b = 0 then nI k else if b = 1 then (if k = 0 then -1 else nI (k - 1)) else if b = 2 then M l 0 else 0) else M a
theorem itM_n {M : Nat → Nat → Int32} {t l k a : Nat} (h : a ≠ t) : itM M t l k a = M a := if_neg h
theorem itM_0 {M : Nat → Nat → Int32} {t l k : Nat} : itM M t l k t 0 = nI k := by unfold itM; rw [if_pos rfl]; rfl
theorem itM_2 {M : Nat → Nat → Int32} {t l k : Nat} : itM M t l k t 2 = M l 0 := by unfold itM; rw [if_pos rfl]; rfl
theorem itM_new {M : Nat → Nat → Int32} {t l : Nat} (h : l ≠ t) : up2 (up2 (upr M t (fun _ => 0)) t 1 (-1)) t 2 (upr M t (fun _ => 0) l 0) = itM M t l 0 := by
  funext a b
  unfold itM
  by_cases ha : a = t
  · subst ha
    rw [if_pos rfl]
    by_cases h2 : b = 2
    · subst h2; rw [up2_s, upr_n h]; rfl
    · rw [up2_n (Or.inr h2)]
      by_cases h1 : b = 1
      · subst h1; rw [up2_s]; rfl
      · rw [up2_n (Or.inr h1), upr_s]
        by_cases h0 : b = 0
        · subst h0; rfl
        · simp only [h0, h1, h2, if_false]
  · rw [if_neg ha, up2_row ha, up2_row ha, upr_n ha]
theorem itM_up {M : Nat → Nat → Int32} {t l k : Nat} : up2 (up2 (itM M t l k) t 0 (nI (k + 1))) t 1 (nI k) = itM M t l (k + 1) := by
  funext a b
  by_cases ha : a = t
  · subst ha
    by_cases h1 : b = 1
    · subst h1; rw [up2_s]; unfold itM; rw [if_pos rfl]; simp
    · rw [up2_n (Or.inr h1)]
      by_cases h0 : b = 0
      · subst h0; rw [up2_s, itM_0]
      · rw [up2_n (Or.inr h0)]
        unfold itM
        simp only [if_true, h0, h1, if_false]
  · rw [up2_row ha, up2_row ha, itM_n ha, itM_n ha]
theorem LV_it {L : List Nat} {R : Nat → Nat → Option Nat} {M : Nat → Nat → Int32} {l s b t l2 k : Nat} {x : Option Nat} (h : LV L R M l s b) (hkt : mK t = 2) : LV (L ++ [t]) (up2 R t 3 x) (itM M t l2 k) l s b := by
  obtain ⟨h1, h2, h3, h4, h5⟩ := h
  have hl : l ≠ t := fun e => by rw [e, hkt] at h2; exact absurd h2 (by decide)
  refine ⟨List.mem_append_left _ h1, h2, (congrFun (itM_n hl) 2).trans h3, h4, fun h0 => ?_⟩
  obtain ⟨e, e1, e2, e3, e4, e5, e6⟩ := h5 h0
  have he : e ≠ t := fun q => by rw [q, hkt] at e2; exact absurd e2 (by decide)
  exact ⟨e, List.mem_append_left _ e1, e2, (up2_n (Or.inl hl)).trans e3, e4, e5, fun k hk => (up2_n (Or.inl he)).trans (e6 k hk)⟩
section VLIST
variable {D : va_G} {dT : Nat → ClassId} {Z : ZT} {M : Nat → Nat → Int32} {R : Nat → Nat → Option Nat} {ad : Nat → Nat} {L : List Nat}
theorem v_iter (l s b t : Nat) (h : LV L R M l s b) (hkt : mK t = 2) (hnt : t ∉ L) (hno : ∀ i ∈ L, ∀ k, R i k ≠ some t) (hR0 : ∀ k, R t k = none) : ∀ l8, BQ l8 yJx4a65c_iterator_32c93 wsJx4a65c_iterator_32c93 rm_Jx4a65c_iterator_32c93 D (tyl dT) Z ad L (pf dT mK mN M R ad) [.ref (ad l)] 1 4 (fun r u => ∃ q, u = (va_up ad t q, L ++ [t], pf dT mK mN (itM M t l 0) (up2 R t 3 (some l)) (va_up ad t q)) ∧ some q = r) := by
  intro l8
  have hl : l ≠ t := fun e => hnt (e ▸ h.1)
  have h1 := k_Jx4a65c_iterator_32c93 (D := D) (dT := dT) (Z := Z) (K := mK) (N := mN) (I := upr M t (fun _ => 0)) (Rr := R) (ad := ad) (L := L) l h.1 h.2.1 t hnt hno hkt (fun k => by rw [upr_s]) hR0 l8
  rw [itM_new hl] at h1
  refine bq_f (fun i hi => ?_) h1
  have : i ≠ t := fun e => hnt (e ▸ hi)
  unfold pf
  rw [upr_n this]
theorem v_has (l s b t k : Nat) (h : LV L R M l s b) (ht : t ∈ L) (hkt : mK t = 2) (hRt : R t 3 = some l) (hk : k ≤ s) (hI : M t 0 = nI k) : ∀ l8, BI l8 yJx35411_hasNext_aae02 wsJx35411_hasNext_aae02 rm_Jx35411_hasNext_aae02 D (tyl dT) Z ad L (pf dT mK mN M R ad) [.ref (ad t)] 0 0 (fun r u => u = (ad, L, pf dT mK mN M R ad) ∧ (if k = s then 0 else 1) = r) := by
  intro l8
  have h1 := k_Jx35411_hasNext_aae02 (D := D) (dT := dT) (Z := Z) (K := mK) (N := mN) (I := M) (Rr := R) (ad := ad) (L := L) t ht hkt l h.1 h.2.1 hRt l8
  rw [hI, h.2.2.1, show (if nI k = nI s then (0 : Int32) else 1) = if k = s then 0 else 1 by
    by_cases q : k = s
    · rw [if_pos q, q, if_pos rfl]
    · rw [if_neg q, if_neg (fun w => q ((nI_eq (by have := h.2.2.2.1; omega) (by have := h.2.2.2.1; omega)).mp w))]] at h1
  exact h1
theorem v_next (l s b t k : Nat) (h : LV L R (itM M t l k) l s b) (ht : t ∈ L) (hkt : mK t = 2) (hRt : R t 3 = some l) (hk : k < s) : ∀ l8, BQ l8 yJx35411_next_0502b wsJx35411_next_0502b rm_Jx35411_next_0502b D (tyl dT) Z ad L (pf dT mK mN (itM M t l k) R ad) [.ref (ad t)] 0 0 (fun r u => u = (ad, L, pf dT mK mN (itM M t l (k + 1)) R ad) ∧ some (ad (b + k)) = r) := by
  intro l8
  obtain ⟨h1, h2, h3, h4, h5⟩ := h
  obtain ⟨e, e1, e2, e3, e4, e5, e6⟩ := h5 (by omega)
  have hl : l ≠ t := fun q => by rw [q, hkt] at h2; exact absurd h2 (by decide)
  have := k_Jx35411_next_0502b (D := D) (dT := dT) (Z := Z) (K := mK) (N := mN) (I := itM M t l k) (Rr := R) (ad := ad) (L := L) t ht hkt l h1 h2 hRt (itM_2.trans (congrFun (itM_n hl) 0).symm) e e1 e2 e3 s e4 e5 h3 k (b + k) hk itM_0 (e6 k hk) l8
  rw [itM_up] at this
  exact this
theorem v_get (l s b k : Nat) (h : LV L R M l s b) (hk : k < s) : ∀ l8, BQ l8 yJx4a65c_get_915e3 wsJx4a65c_get_915e3 rm_Jx4a65c_get_915e3 D (tyl dT) Z ad L (pf dT mK mN M R ad) [.ref (ad l), .int (nI k)] 0 0 (fun r u => u = (ad, L, pf dT mK mN M R ad) ∧ some (ad (b + k)) = r) := by
  obtain ⟨h1, h2, h3, h4, h5⟩ := h
  obtain ⟨e, e1, e2, e3, e4, e5, e6⟩ := h5 (by omega)
  exact k_Jx4a65c_get_915e3 l h1 h2 e e1 e2 e3 s e4 e5 k (b + k) hk (e6 k hk) h3
end VLIST
/-! the pool of the reference is closed; fresh names -/
theorem mR_cl {S : SZ} (hS : WS S) {i k j : Nat} (hi : i ∈ mL S) (h : mR S i k = some j) : j ∈ mL S ∨ j = 99999 := by
  obtain ⟨h9, hA⟩ := mL_mem.mp hi
  have c1 := hS.c1
  have c2 := hS.c2
  have c3 := hS.c3
  have eC : ∀ (q c : Nat), (0 < c → q * 1000 + c ∈ mL S) → mE q c = some j → j ∈ mL S ∨ j = 99999 := fun q c hc e => by
    unfold mE at e
    by_cases h0 : c = 0
    · rw [if_pos h0] at e; cases e; exact Or.inr rfl
    · rw [if_neg h0] at e; cases e; rw [Nat.mul_comm]; exact Or.inl (hc (by omega))
  unfold mR at h
  by_cases h0 : i = 0
  · rw [if_pos h0] at h
    rcases (show k = 0 ∨ k = 1 ∨ k = 2 ∨ k = 3 ∨ k = 4 ∨ k = 5 ∨ 6 ≤ k by omega) with rfl | rfl | rfl | rfl | rfl | rfl | h6
    · cases h; exact Or.inl (m_lo (by decide))
    · cases h; exact Or.inl (m_lo (by decide))
    · cases h; exact Or.inl (m_lo (by decide))
    · cases h; exact Or.inl (m_lo (by decide))
    · cases h; exact Or.inl (m_lo (by decide))
    · cases h; exact Or.inl (m_lo (by decide))
    · obtain ⟨d, rfl⟩ : ∃ d, k = d + 6 := ⟨k - 6, by omega⟩
      exact absurd h (by simp)
  rw [if_neg h0] at h
  by_cases h1 : i = 1
  · rw [if_pos h1] at h
    by_cases hk : k = 1
    · rw [if_pos hk] at h; exact eC 1 _ (fun q => m_e1 hS q) h
    · rw [if_neg hk] at h; cases h
  rw [if_neg h1] at h
  by_cases h2 : i = 2
  · rw [if_pos h2] at h
    by_cases hk : k = 1
    · rw [if_pos hk] at h; exact eC 2 _ (fun q => m_e2 hS q) h
    · rw [if_neg hk] at h; cases h
  rw [if_neg h2] at h
  by_cases h3 : i = 3
  · rw [if_pos h3] at h
    by_cases hk : k = 1
    · rw [if_pos hk] at h; exact eC 3 _ (fun q => m_e3 hS q) h
    · rw [if_neg hk] at h; cases h
  rw [if_neg h3] at h
  by_cases h4 : i = 4
  · rw [if_pos h4] at h
    by_cases hk : k < 12
    · rw [if_pos hk] at h; cases h; exact Or.inl (m_v hk)
    · rw [if_neg hk] at h; cases h
  rw [if_neg h4] at h
  by_cases h5 : i < 1000
  · rw [if_pos h5] at h; cases h
  rw [if_neg h5] at h
  by_cases h6 : i < 2000
  · rw [if_pos h6] at h
    by_cases hk : k < S.1
    · rw [if_pos hk] at h; cases h; exact Or.inl (m_o hS hk)
    · rw [if_neg hk] at h; cases h
  rw [if_neg h6] at h
  by_cases h7 : i < 3000
  · rw [if_pos h7] at h
    by_cases hk : k < S.2.1
    · rw [if_pos hk] at h; cases h; exact Or.inl (m_n hS hk)
    · rw [if_neg hk] at h; cases h
  rw [if_neg h7] at h
  by_cases h8 : i < 4000
  · rw [if_pos h8] at h
    by_cases hk : k < S.2.2.1
    · rw [if_pos hk] at h; cases h; exact Or.inl (m_s hS hk)
    · rw [if_neg hk] at h; cases h
  rw [if_neg h8] at h
  by_cases h10 : i < 5000
  · rw [if_pos h10] at h; cases h
  rw [if_neg h10] at h
  by_cases h11 : i < 5004
  · rw [if_pos h11] at h
    by_cases hk : k < 200
    · rw [if_pos hk] at h; cases h
      have hj : i - 5000 < S.1 := by unfold mA at hA; omega
      exact Or.inl (m_r hS hj hk)
    · rw [if_neg hk] at h; cases h
  rw [if_neg h11] at h
  cases h
theorem mR_no {S : SZ} (hS : WS S) {n : Nat} (hn : n ∉ mL S) (h9 : n < 99999) : ∀ i ∈ mL S, ∀ k, mR S i k ≠ some n := fun i hi k h => by
  rcases mR_cl hS hi h with q | q
  · exact hn q
  · omega
theorem mR_0 {S : SZ} {n : Nat} (h : (4 < n ∧ n < 1000) ∨ (4000 ≤ n ∧ n < 5000) ∨ 5004 ≤ n) : ∀ k, mR S n k = none := fun k => by
  unfold mR
  rw [if_neg (by omega), if_neg (by omega), if_neg (by omega), if_neg (by omega), if_neg (by omega)]
  by_cases h1 : n < 1000
  · rw [if_pos h1]
  rw [if_neg h1, if_neg (by omega), if_neg (by omega), if_neg (by omega)]
  by_cases h2 : n < 5000
  · rw [if_pos h2]
  rw [if_neg h2, if_neg (by omega)]
theorem f_lo {S : SZ} {n : Nat} (h : 7 ≤ n) (h2 : n < 20) (hS : WS S) : n ∉ mL S := fun q => by
  have := (mL_mem.mp q).2
  unfold mA at this
  omega
theorem f_o {S : SZ} (hS : WS S) {j : Nat} (h : S.1 ≤ j) (h4 : j < 4) : 5000 + j ∉ mL S := fun q => by
  have := (mL_mem.mp q).2
  have := hS.c1; have := hS.c2; have := hS.c3; have := hS.1; have := hS.2.1; have := hS.2.2.1
  unfold mA at *
  omega
theorem f_r {S : SZ} (hS : WS S) {j r : Nat} (h : S.1 ≤ j) (h4 : j < 4) (hr : r < 200) : 6000 + 200 * j + r ∉ mL S := fun q => by
  have := (mL_mem.mp q).2
  have := hS.c1; have := hS.c2; have := hS.c3; have := hS.1; have := hS.2.1; have := hS.2.2.1
  unfold mA at *
  omega
theorem f_n {S : SZ} (hS : WS S) {n : Nat} (h : S.2.1 ≤ n) (h4 : n < 900) : 7000 + n ∉ mL S := fun q => by
  have := (mL_mem.mp q).2
  have := hS.c1; have := hS.c2; have := hS.c3; have := hS.1; have := hS.2.1; have := hS.2.2.1
  unfold mA at *
  omega
theorem f_s {S : SZ} (hS : WS S) {n : Nat} (h : S.2.2.1 ≤ n) : 8000 + n ∉ mL S := fun q => by
  have := (mL_mem.mp q).2
  have := hS.c1; have := hS.c2; have := hS.c3; have := hS.1; have := hS.2.1; have := hS.2.2.1
  unfold mA at *
  omega
theorem f_t {S : SZ} {n : Nat} (h : 9000 ≤ n) : n ∉ mL S := fun q => by
  have := (mL_mem.mp q).1
  omega
theorem LV_1 {S : SZ} (hS : WS S) {M : Nat → Nat → Int32} (hw : M 1 2 = nI S.1) : LV (mL S) (mR S) M 1 S.1 5000 := by
  refine ⟨m_lo (by decide), rfl, hw, by have := hS.1; omega, fun h0 => ?_⟩
  have hc := c1_pos hS h0
  have h10 := hS.c1
  exact ⟨1000 + S.2.2.2.1, m_e1 hS hc, mK_e (by omega) (by omega), mR_11 hc, by rw [mN_1 hS]; exact hS.2.2.2.1, by rw [mN_1 hS]; omega, fun k hk => by rw [mR_1 (by omega), if_pos hk]⟩
theorem LV_2 {S : SZ} (hS : WS S) {M : Nat → Nat → Int32} (hw : M 2 2 = nI S.2.1) : LV (mL S) (mR S) M 2 S.2.1 7000 := by
  refine ⟨m_lo (by decide), rfl, hw, by have := hS.2.1; omega, fun h0 => ?_⟩
  have hc := c2_pos hS h0
  have h10 := hS.c2
  exact ⟨2000 + S.2.2.2.2.1, m_e2 hS hc, mK_e (by omega) (by omega), mR_21 hc, by rw [mN_2 hS]; exact hS.2.2.2.2.1, by rw [mN_2 hS]; omega, fun k hk => by rw [mR_2 (by omega), if_pos hk]⟩
theorem LV_3 {S : SZ} (hS : WS S) {M : Nat → Nat → Int32} (hw : M 3 2 = nI S.2.2.1) : LV (mL S) (mR S) M 3 S.2.2.1 8000 := by
  refine ⟨m_lo (by decide), rfl, hw, by have := hS.2.2.1; omega, fun h0 => ?_⟩
  have hc := c3_pos hS h0
  have h10 := hS.c3
  exact ⟨3000 + S.2.2.2.2.2, m_e3 hS hc, mK_e (by omega) (by omega), mR_31 hc, by rw [mN_3 hS]; exact hS.2.2.2.2.2.1, by rw [mN_3 hS]; omega, fun k hk => by rw [mR_3 (by omega), if_pos hk]⟩
