/-! THE RELATION as a whole -/
def cvI (v : Int32) : Int64 := v.toInt64
def cvB (v : Int32) : Int64 := if v = 0 then 0 else 1
def RZ (M : Nat → Nat → Int32) (S : SZ) : Prop := WS S ∧ M 1 2 = nI S.1 ∧ M 2 2 = nI S.2.1 ∧ M 3 2 = nI S.2.2.1
def AR (I : Nat → Nat → Int32) (S : SZ) (fa : Nat → Nat) : Prop := I 0 7 = -1 ∨ ∃ j, j < S.1 ∧ I 0 7 = nI j ∧ iscn I j S.2.1 fa = 1
def PLN (I M : Nat → Nat → Int32) : Prop := (I 99 0 = -1 ∧ M 0 6 = -1) ∧ (∃ a, a ≤ 200 ∧ I 3 4 = nI a) ∧ (I 3 10 = 0 ∨ I 3 10 = 1) ∧ (∃ a, a ≤ 200 ∧ M 0 7 = nI a) ∧ (M 0 16 = 0 ∨ M 0 16 = 1) ∧ (∀ v, v < 12 → I (24 + v) 4 = 0) ∧ ∀ v, v < 12 → M (20 + v) 7 = 0
def PLS (I M : Nat → Nat → Int32) (S : SZ) (r : Nat) : Prop := (∃ j, j < S.1 ∧ I 99 0 = nI j ∧ M 0 6 = nI j) ∧ PLy I M r ∧ IXP M S
def REL (I M : Nat → Nat → Int32) (S : SZ) : Prop := RZ M S ∧ RR I M S ∧ (∃ fa la pa, RN I M S fa la pa ∧ AR I S fa) ∧ RSe I M ∧ RVa I M ∧ RCo I M ∧ RLo I M S ∧ ∃ r, r ≤ 200 ∧ LG I r ∧ (PLN I M ∨ PLS I M S r)
theorem VSt_p {I J M Q : Nat → Nat → Int32} {v : Nat} (h : VSt I M v) (h1 : ∀ b, 4 ≤ b → J (24 + v) b = I (24 + v) b) (h2 : ∀ b, 4 ≤ b → Q (20 + v) b = M (20 + v) b) : VSt J Q v := by
  unfold VSt VOp VCl VTo at h ⊢
  rw [h1 4 (by decide), h1 5 (by decide), h1 6 (by decide), h1 7 (by decide), h1 8 (by decide), h1 9 (by decide), h1 10 (by decide), h2 4 (by decide), h2 5 (by decide), h2 6 (by decide), h2 7 (by decide), h2 8 (by decide), h2 9 (by decide)]
  exact h
theorem PLy_c {I J M Q : Nat → Nat → Int32} {r : Nat} (h : PLy I M r) (h3 : ∀ b, b = 4 ∨ b = 5 ∨ b = 6 ∨ b = 10 ∨ b = 12 → J 3 b = I 3 b) (h37 : J 3 7 = Q 0 10 ∧ asd (Q 0 10)) (q0 : ∀ b, b = 7 ∨ b = 8 ∨ b = 9 ∨ b = 16 → Q 0 b = M 0 b) (q6 : Q 6 = M 6) (hv : ∀ v, v < 12 → ∀ b, 4 ≤ b → J (24 + v) b = I (24 + v) b) (qv : ∀ v, v < 12 → ∀ b, 4 ≤ b → Q (20 + v) b = M (20 + v) b) : PLy J Q r := by
  obtain ⟨⟨a1, a2, a3⟩, ⟨b1, b2⟩, -, ⟨c1, c2⟩, ⟨x, d1, d2, d3⟩, e⟩ := h
  refine ⟨⟨a1, by rw [h3 4 (by decide)]; exact a2, by rw [q0 7 (by decide)]; exact a3⟩, ⟨by rw [h3 5 (by decide), q0 8 (by decide)]; exact b1, by rw [h3 6 (by decide), q0 9 (by decide)]; exact b2⟩, h37, ⟨by rw [h3 10 (by decide), q0 16 (by decide)]; exact c1, by rw [q0 16 (by decide)]; exact c2⟩, ⟨x, d1, by rw [h3 12 (by decide)]; exact d2, by rw [q6]; exact d3⟩, fun v hv2 => VSt_p (e v hv2) (hv v hv2) (qv v hv2)⟩
theorem IXP_c {M Q : Nat → Nat → Int32} {S T : SZ} (h : IXP M S) (qv : ∀ v, v < 12 → ∀ b, 4 ≤ b → Q (20 + v) b = M (20 + v) b) (hT : T.2.2.1 = S.2.2.1) : IXP Q T := fun v hv => by
  rw [qv v hv 7 (by decide), qv v hv 8 (by decide), hT]; exact h v hv
/-- what concerns neither playing nor the log -/
theorem REL_c {I J M Q : Nat → Nat → Int32} {S T : SZ} (h : REL I M S) (hz : RZ Q T) (hR : RR J Q T) (hN : ∃ fa la pa, RN J Q T fa la pa ∧ AR J T fa) (hSe : RSe J Q) (hVa : RVa J Q) (j3 : J 3 = I 3) (j99 : J 99 0 = I 99 0) (jl : ∀ a, 17 ≤ a → a < 23 → J a = I a) (jv : ∀ v, v < 12 → ∀ b, 4 ≤ b → J (24 + v) b = I (24 + v) b) (q0 : ∀ b, 6 ≤ b → b ≤ 12 → Q 0 b = M 0 b) (q16 : Q 0 16 = M 0 16) (q6 : Q 6 = M 6) (qv : ∀ v, v < 12 → ∀ b, 4 ≤ b → Q (20 + v) b = M (20 + v) b) (ql : ∀ n, Q (8000 + n) = M (8000 + n)) (hT : S.1 ≤ T.1) (hT3 : T.2.2.1 = S.2.2.1) : REL J Q T := by
  obtain ⟨-, -, -, -, -, hC, hL, r, hr, hg, hp⟩ := h
  refine ⟨hz, hR, hN, hSe, hVa, ⟨by rw [j3, q0 11 (by decide) (by decide)]; exact hC.1, by rw [j3, q0 12 (by decide) (by decide)]; exact hC.2⟩, ⟨by rw [jl 17 (by decide) (by decide), hT3]; exact hL.1, by rw [hT3]; exact hL.2.1, fun n hn b hb => by rw [jl (18 + b) (by omega) (by omega), ql n]; exact hL.2.2 n (hT3 ▸ hn) b hb⟩, r, hr, LG_c hg (by rw [jl 17 (by decide) (by decide)]) (fun b hb => jl _ (by omega) (by omega)) (fun v b hv hb => jv v hv b hb) (by rw [j3]), ?_⟩
  rcases hp with ⟨⟨a1, a2⟩, a3, a4, a5, a6, a7, a8⟩ | ⟨⟨j, b1, b2, b3⟩, b4, b5⟩
  · exact Or.inl ⟨⟨j99.trans a1, (q0 6 (by decide) (by decide)).trans a2⟩, by rw [j3]; exact a3, by rw [j3]; exact a4, by rw [q0 7 (by decide) (by decide)]; exact a5, by rw [q16]; exact a6, fun v hv => (jv v hv 4 (by decide)).trans (a7 v hv), fun v hv => (qv v hv 7 (by decide)).trans (a8 v hv)⟩
  · refine Or.inr ⟨⟨j, by omega, j99.trans b2, (q0 6 (by decide) (by decide)).trans b3⟩, PLy_c b4 (fun b _ => by rw [j3]) ⟨by rw [j3, q0 10 (by decide) (by decide)]; exact b4.2.2.1.1, by rw [q0 10 (by decide) (by decide)]; exact b4.2.2.1.2⟩ (fun b hb => ?_) q6 jv qv, IXP_c b5 qv hT3⟩
    rcases hb with rfl | rfl | rfl | rfl
    · exact q0 7 (by decide) (by decide)
    · exact q0 8 (by decide) (by decide)
    · exact q0 9 (by decide) (by decide)
    · exact q16
theorem RZ_up {M : Nat → Nat → Int32} {S : SZ} {b : Nat} {x : Int32} (h : RZ M S) : RZ (up2 M 0 b x) S := ⟨h.1, by rw [up2_row (by omega)]; exact h.2.1, by rw [up2_row (by omega)]; exact h.2.2.1, by rw [up2_row (by omega)]; exact h.2.2.2⟩
theorem RSe_up {I M : Nat → Nat → Int32} {x : Int32} (h : RSe I M) : RSe I (up2 M 0 15 x) := RSe_c h rfl rfl rfl (up2_row (by omega)) (fun b hb => up2_n (Or.inr (by omega)))
theorem RVa_up {I M : Nat → Nat → Int32} {x : Int32} {b : Nat} (h : RVa I M) : RVa I (up2 M 0 b x) := fun v hv => by
  rw [up2_row (by omega)]; exact h v hv
theorem REL_up {I M : Nat → Nat → Int32} {S : SZ} {x : Int32} (h : REL I M S) : REL I (up2 M 0 15 x) S := by
  obtain ⟨fa, la, pa, hn, ha⟩ := h.2.2.1
  exact REL_c h (RZ_up h.1) (RR_up h.2.1) ⟨fa, la, pa, RN_up hn, ha⟩ (RSe_up h.2.2.2.1) (RVa_up h.2.2.2.2.1) rfl rfl (fun _ _ _ => rfl) (fun _ _ _ _ => rfl) (fun b _ _ => up2_n (Or.inr (by omega))) (up2_n (Or.inr (by decide))) (up2_row (by omega)) (fun v _ b _ => by rw [up2_row (by omega)]) (fun n => up2_row (by omega)) (Nat.le_refl _) rfl
theorem REL.b99 {I M : Nat → Nat → Int32} {S : SZ} (h : REL I M S) : I 99 0 = M 0 6 := by
  obtain ⟨r, -, -, hp⟩ := h.2.2.2.2.2.2.2
  rcases hp with ⟨⟨a1, a2⟩, -⟩ | ⟨⟨j, b1, b2, b3⟩, -⟩
  · rw [a1, a2]
  · rw [b2, b3]
/-- what holds whether a roll is played or not -/
theorem REL.any {I M : Nat → Nat → Int32} {S : SZ} (h : REL I M S) : (∃ a, a ≤ 200 ∧ I 3 4 = nI a) ∧ (I 3 10 = 0 ∨ I 3 10 = 1) ∧ (∃ a, a ≤ 200 ∧ M 0 7 = nI a) ∧ (M 0 16 = 0 ∨ M 0 16 = 1) ∧ (∀ v, v < 12 → I (24 + v) 4 = 0 ∨ I (24 + v) 4 = 1) ∧ IXP M S ∧ LI I := by
  obtain ⟨r, -, hg, hp⟩ := h.2.2.2.2.2.2.2
  rcases hp with ⟨-, a3, a4, a5, a6, a7, a8⟩ | ⟨-, ⟨⟨c1, c2, c3⟩, -, -, ⟨c4, c5⟩, -, c6⟩, b5⟩
  · exact ⟨a3, a4, a5, a6, fun v hv => Or.inl (a7 v hv), fun v hv q => absurd (a8 v hv) q, hg.1.1⟩
  · refine ⟨⟨r, c1, c2⟩, c4 ▸ c5, ⟨r, c1, c3⟩, c5, fun v hv => ?_, b5, hg.1.1⟩
    rcases (c6 v hv).1 with ⟨-, q⟩ | ⟨-, q, -⟩
    · exact Or.inl q
    · exact Or.inr q
/-- what a wrapper tells -/
abbrev WF (cd : Nat) (I J : Nat → Nat → Int32) {α : Type} (R : α → (Nat → Nat → Int32) → Prop) (x : α) : Prop := (cd = 0 → R x J) ∧ (cd ≠ 0 → J = I)
theorem st_ro {I J M : Nat → Nat → Int32} {S : SZ} {cd : Nat} {C : Int32} {α : Type} {R : α → (Nat → Nat → Int32) → Prop} {x y : α} (h : REL I M S) (hc : C = nI cd) (w : WF cd I J R x) (hR : cd = 0 → R x J → I = J ∧ x = y) : up2 M 0 15 C 0 15 = nI cd ∧ (cd = 0 → x = y) ∧ REL J (up2 M 0 15 C) S := by
  refine ⟨by rw [up2_s]; exact hc, fun q => (hR q (w.1 q)).2, ?_⟩
  by_cases q : cd = 0
  · rw [← (hR q (w.1 q)).1]; exact REL_up h
  · rw [w.2 q]; exact REL_up h
theorem nI00 : nI 0 = 0 := rfl
theorem nI_z {n : Nat} (h : n < 2 ^ 31) : nI n = 0 ↔ n = 0 := ⟨fun q => by
  rcases Nat.eq_zero_or_pos n with e | e
  · exact e
  · exact absurd q (nI_ne0 e (by omega)), fun q => by rw [q]; rfl⟩
section RO
variable {I J M : Nat → Nat → Int32} {S : SZ} {x : Int64}
theorem st_hole (h : REL I M S) (v r t : Int32) (w : WF (kpu I v r t) I J (fun x J => ∃ q, (kpu I v r t = 0 ∧ I = J ∧ hh I v.toNatClampNeg r t = q) ∧ cvB q = x) x) : up2 M 0 15 (hoC S v r t) 0 15 = nI (kpu I v r t) ∧ (kpu I v r t = 0 → x = cvB (if hoC S v r t = 0 then (if M (6000 + 200 * v.toNatClampNeg + r.toNatClampNeg) t.toNatClampNeg = 0 then 0 else 1) else 0)) ∧ REL J (up2 M 0 15 (hoC S v r t)) S := by
  have e := c_ho h.2.1.1 h.2.1.2.1 v r t
  refine st_ro h e w (fun q ⟨z, ⟨_, e1, e2⟩, e3⟩ => ⟨e1, ?_⟩)
  rw [e, q, if_pos nI00, ← e3, ← e2, (s_hole h.2.1 q).1]
theorem st_length (h : REL I M S) (v : Int32) (w : WF (kr1 I v) I J (fun x J => ∃ q, (kr1 I v = 0 ∧ I = J ∧ crw (I (8 + v.toNatClampNeg)) 200 = q) ∧ cvI q = x) x) : up2 M 0 15 (r1C S v) 0 15 = nI (kr1 I v) ∧ (kr1 I v = 0 → x = cvI (if r1C S v = 0 then nI (lenM (up2 M 0 15 0) v.toNatClampNeg 200) else 0)) ∧ REL J (up2 M 0 15 (r1C S v)) S := by
  have e := c_r1 h.2.1.1 h.2.1.2.1 v
  refine st_ro h e w (fun q ⟨z, ⟨_, e1, e2⟩, e3⟩ => ⟨e1, ?_⟩)
  rw [e, q, if_pos nI00, ← e3, ← e2, s_length h.2.1 q]
theorem st_holes (h : REL I M S) (v t : Int32) (w : WF (kho I v t) I J (fun x J => ∃ q, (kho I v t = 0 ∧ I = J ∧ sumB (fun q => bcnt (I (8 + v.toNatClampNeg) q &&& (1 <<< (t &&& 31)))) 200 = q) ∧ cvI q = x) x) : up2 M 0 15 (hlC S v t) 0 15 = nI (kho I v t) ∧ (kho I v t = 0 → x = cvI (if hlC S v t = 0 then nI (hoM (up2 M 0 15 0) v.toNatClampNeg t.toNatClampNeg 200) else 0)) ∧ REL J (up2 M 0 15 (hlC S v t)) S := by
  have e := c_hl h.2.1.1 h.2.1.2.1 v t
  refine st_ro h e w (fun q ⟨z, ⟨_, e1, e2⟩, e3⟩ => ⟨e1, ?_⟩)
  rw [e, q, if_pos nI00, ← e3, ← e2, s_holes h.2.1 q]
theorem st_unlike (h : REL I M S) (v u : Int32) (w : WF (kun I v u) I J (fun x J => ∃ q, (kun I v u = 0 ∧ I = J ∧ dis I v.toNatClampNeg u.toNatClampNeg = q) ∧ cvI q = x) x) : up2 M 0 15 (unC S v u) 0 15 = nI (kun I v u) ∧ (kun I v u = 0 → x = cvI (if unC S v u = 0 then nI (apM (up2 M 0 15 0) v.toNatClampNeg u.toNatClampNeg 200) else 0)) ∧ REL J (up2 M 0 15 (unC S v u)) S := by
  have e := c_un h.2.1.1 h.2.1.2.1 v u
  refine st_ro h e w (fun q ⟨z, ⟨_, e1, e2⟩, e3⟩ => ⟨e1, ?_⟩)
  rw [e, q, if_pos nI00, ← e3, ← e2, s_unlike h.2.1 q]
theorem st_parent (h : REL I M S) (v : Int32) (w : WF (kpa I v) I J (fun x J => ∃ q, (kpa I v = 0 ∧ I = J ∧ nI (pfl I v.toNatClampNeg (v.toNatClampNeg - 1) 1 0 (dis I v.toNatClampNeg 0)) = q) ∧ cvI q = x) x) : up2 M 0 15 (paC S v) 0 15 = nI (kpa I v) ∧ (kpa I v = 0 → x = cvI (if paC S v = 0 then nI (parM (up2 M 0 15 0) v.toNatClampNeg (v.toNatClampNeg - 1)) else 0)) ∧ REL J (up2 M 0 15 (paC S v)) S := by
  have e := c_pa h.2.1.1 h.2.1.2.1 v
  refine st_ro h e w (fun q ⟨z, ⟨_, e1, e2⟩, e3⟩ => ⟨e1, ?_⟩)
  rw [e, q, if_pos nI00, ← e3, ← e2, s_parent h.2.1 q]
theorem st_scanned (h : REL I M S) (v : Int32) (w : WF (kr1 I v) I J (fun x J => ∃ q, (kr1 I v = 0 ∧ I = J ∧ sumB (fun q => bcnt (fb I v.toNatClampNeg (nI q))) 200 = q) ∧ cvI q = x) x) : up2 M 0 15 (r1C S v) 0 15 = nI (kr1 I v) ∧ (kr1 I v = 0 → x = cvI (if r1C S v = 0 then nI (scA (up2 M 0 15 0) v.toNatClampNeg 200).length else 0)) ∧ REL J (up2 M 0 15 (r1C S v)) S := by
  have e := c_r1 h.2.1.1 h.2.1.2.1 v
  refine st_ro h e w (fun q ⟨z, ⟨_, e1, e2⟩, e3⟩ => ⟨e1, ?_⟩)
  rw [e, q, if_pos nI00, ← e3, ← e2, s_scanned h.2.1 q]
theorem st_scan (h : REL I M S) (v u t : Int32) (w : WF (ksc I v u t) I J (fun x J => ∃ q, (ksc I v u t = 0 ∧ I = J ∧ scv I v u t = q) ∧ cvI q = x) x) : up2 M 0 15 (scC S (up2 M 0 15 0) v u t) 0 15 = nI (ksc I v u t) ∧ (ksc I v u t = 0 → x = cvI (if scC S (up2 M 0 15 0) v u t = 0 then scq (scA (up2 M 0 15 0) v.toNatClampNeg 200) u.toNatClampNeg (ixS 0 t).toNatClampNeg else 0)) ∧ REL J (up2 M 0 15 (scC S (up2 M 0 15 0) v u t)) S := by
  have e : scC S (up2 M 0 15 0) v u t = nI (ksc I v u t) := (scC_up v u t).trans (c_sc h.2.1 v u t)
  refine st_ro h e w (fun q ⟨z, ⟨_, e1, e2⟩, e3⟩ => ⟨e1, ?_⟩)
  rw [e, q, if_pos nI00, ← e3, ← e2, s_scan2 h.2.1 q]
theorem st_isMusic (h : REL I M S) {fa la pa : Nat → Nat} (hn : RN I M S fa la pa) (v : Int32) (w : WF (kr1 I v) I J (fun x J => ∃ q, (kr1 I v = 0 ∧ I = J ∧ iscn I v.toNatClampNeg S.2.1 fa = q) ∧ cvB q = x) x) : up2 M 0 15 (r1C S v) 0 15 = nI (kr1 I v) ∧ (kr1 I v = 0 → x = cvB (if r1C S v = 0 then muQ M (scA (up2 M 0 15 0) v.toNatClampNeg 200) (q0M S (scA (up2 M 0 15 0) v.toNatClampNeg 200)) S.2.1 else 0)) ∧ REL J (up2 M 0 15 (r1C S v)) S := by
  have e := c_r1 h.2.1.1 h.2.1.2.1 v
  refine st_ro h e w (fun q ⟨z, ⟨_, e1, e2⟩, e3⟩ => ⟨e1, ?_⟩)
  rw [e, q, if_pos nI00, ← e3, ← e2, s_isMusic h.2.1 hn q]
theorem st_pl (h : REL I M S) {y z : Int32} (hy : ¬ M 0 6 < 0 → y = z) (w : WF (kpl I) I J (fun x J => ∃ q, (kpl I = 0 ∧ I = J ∧ y = q) ∧ cvI q = x) x) : up2 M 0 15 (if M 0 6 < 0 then 1 else 0) 0 15 = nI (kpl I) ∧ (kpl I = 0 → x = cvI (if M 0 6 < 0 then 0 else z)) ∧ REL J (up2 M 0 15 (if M 0 6 < 0 then 1 else 0)) S := by
  have e := c_pl h.b99
  refine st_ro h e w (fun q ⟨u, ⟨_, e1, e2⟩, e3⟩ => ⟨e1, ?_⟩)
  by_cases c : M 0 6 < 0
  · rw [if_pos c, q] at e; exact absurd e n10
  · rw [if_neg c, ← e3, ← e2, hy c]
theorem on_P (h : REL I M S) : ¬ M 0 6 < 0 → ∃ r, PLS I M S r := fun c => by
  obtain ⟨r, -, hg, hp⟩ := h.2.2.2.2.2.2.2
  rcases hp with ⟨⟨a1, a2⟩, -⟩ | q
  · rw [a2] at c; exact absurd (by decide) c
  · exact ⟨r, q⟩
theorem st_row9 (h : REL I M S) (w : WF (kpl I) I J (fun x J => ∃ q, (kpl I = 0 ∧ I = J ∧ I 3 4 = q) ∧ cvI q = x) x) : up2 M 0 15 (if M 0 6 < 0 then 1 else 0) 0 15 = nI (kpl I) ∧ (kpl I = 0 → x = cvI (if M 0 6 < 0 then 0 else M 0 7)) ∧ REL J (up2 M 0 15 (if M 0 6 < 0 then 1 else 0)) S :=
  st_pl h (fun c => by obtain ⟨r, -, q, -⟩ := on_P h c; rw [q.1.2.1, q.1.2.2]) w
theorem st_suction (h : REL I M S) (w : WF (kpl I) I J (fun x J => ∃ q, (kpl I = 0 ∧ I = J ∧ I 3 5 = q) ∧ cvI q = x) x) : up2 M 0 15 (if M 0 6 < 0 then 1 else 0) 0 15 = nI (kpl I) ∧ (kpl I = 0 → x = cvI (if M 0 6 < 0 then 0 else M 0 8)) ∧ REL J (up2 M 0 15 (if M 0 6 < 0 then 1 else 0)) S :=
  st_pl h (fun c => by obtain ⟨r, -, q, -⟩ := on_P h c; exact q.2.1.1) w
theorem st_level (h : REL I M S) (w : WF (kpl I) I J (fun x J => ∃ q, (kpl I = 0 ∧ I = J ∧ I 3 6 = q) ∧ cvI q = x) x) : up2 M 0 15 (if M 0 6 < 0 then 1 else 0) 0 15 = nI (kpl I) ∧ (kpl I = 0 → x = cvI (if M 0 6 < 0 then 0 else M 0 9)) ∧ REL J (up2 M 0 15 (if M 0 6 < 0 then 1 else 0)) S :=
  st_pl h (fun c => by obtain ⟨r, -, q, -⟩ := on_P h c; exact q.2.1.2) w
theorem k_op (h : REL I M S) {n : Int32} (q : kop I n = 0) : ∃ r v, PLS I M S r ∧ v < 12 ∧ n.toNatClampNeg = v := by
  unfold kop at q
  by_cases c : isB I = 0
  · rw [if_pos c] at q; cases q
  · rw [if_neg c] at q
    by_cases d : vok n = 0
    · rw [if_pos d] at q; cases q
    · obtain ⟨r, hp⟩ := on_P h (fun z => c ((isB_0 h.b99).mpr z))
      obtain ⟨v, hv, -, e⟩ := k_vok d
      exact ⟨r, v, hp, hv, e⟩
theorem st_isOpen (h : REL I M S) (n : Int32) (w : WF (kop I n) I J (fun x J => ∃ q, (kop I n = 0 ∧ I = J ∧ I (24 + n.toNatClampNeg) 4 = q) ∧ cvB q = x) x) : up2 M 0 15 (opC M n) 0 15 = nI (kop I n) ∧ (kop I n = 0 → x = cvB (if opC M n = 0 then (if M (20 + n.toNatClampNeg) 9 = 0 then 0 else 1) else 0)) ∧ REL J (up2 M 0 15 (opC M n)) S := by
  have e := c_op h.b99 n
  refine st_ro h e w (fun q ⟨u, ⟨_, e1, e2⟩, e3⟩ => ⟨e1, ?_⟩)
  obtain ⟨r, v, hp, hv, ev⟩ := k_op h q
  rw [e, q, if_pos nI00, ← e3, ← e2, ev]
  rcases (hp.2.1.2.2.2.2.2 v hv).1 with ⟨a, b⟩ | ⟨a, b, -⟩
  · rw [a, b, if_pos rfl]
  · rw [a, b, if_neg n10]
theorem st_isHeard (h : REL I M S) (n : Int32) (w : WF (kop I n) I J (fun x J => ∃ q, (kop I n = 0 ∧ I = J ∧ iau I n.toNatClampNeg = q) ∧ cvB q = x) x) : up2 M 0 15 (opC M n) 0 15 = nI (kop I n) ∧ (kop I n = 0 → x = cvB (if opC M n = 0 then (if M (20 + n.toNatClampNeg) 7 = 0 then 0 else 1) else 0)) ∧ REL J (up2 M 0 15 (opC M n)) S := by
  have e := c_op h.b99 n
  refine st_ro h e w (fun q ⟨u, ⟨_, e1, e2⟩, e3⟩ => ⟨e1, ?_⟩)
  obtain ⟨r, v, hp, hv, ev⟩ := k_op h q
  rw [e, q, if_pos nI00, ← e3, ← e2, ev]
  unfold iau
  rcases (hp.2.1.2.2.2.2.2 v hv).2.2 with ⟨a, b, c, -⟩ | ⟨a, b, c, -⟩ | ⟨a, b, c, -⟩
  · rw [a, b, c, if_pos rfl, if_pos rfl]
  · rw [a, b, if_neg n10, if_neg n10]
  · rw [a, b, c, if_pos rfl, if_neg n10, if_neg (by decide)]
theorem st_sounding (h : REL I M S) (u t : Int32) (w : WF (kso I u t) I J (fun x J => ∃ q, (kso I u t = 0 ∧ I = J ∧ ltell I u t = q) ∧ cvI q = x) x) : up2 M 0 15 (soC S u t) 0 15 = nI (kso I u t) ∧ (kso I u t = 0 → x = cvI (if soC S u t = 0 then M (8000 + u.toNatClampNeg) (ixS 2 t).toNatClampNeg else 0)) ∧ REL J (up2 M 0 15 (soC S u t)) S := by
  have hl := h.2.2.2.2.2.2.1
  have e := c_so hl u t
  refine st_ro h e w (fun q ⟨z, ⟨_, e1, e2⟩, e3⟩ => ⟨e1, ?_⟩)
  rw [e, q, if_pos nI00, ← e3, ← e2, s_so hl q]
theorem st_loudest (h : REL I M S) (w : WF (klo I) I J (fun x J => ∃ q, (klo I = 0 ∧ I = J ∧ nI (lfl I (S.2.2.1 - 1) 1 0) = q) ∧ cvI q = x) x) : up2 M 0 15 (if S.2.2.1 = 0 then 1 else 0) 0 15 = nI (klo I) ∧ (klo I = 0 → x = cvI (if S.2.2.1 = 0 then 0 else nI (loM M (S.2.2.1 - 1)))) ∧ REL J (up2 M 0 15 (if S.2.2.1 = 0 then 1 else 0)) S := by
  have hl := h.2.2.2.2.2.2.1
  have e := c_lo hl
  refine st_ro h e w (fun q ⟨z, ⟨_, e1, e2⟩, e3⟩ => ⟨e1, ?_⟩)
  by_cases c : S.2.2.1 = 0
  · rw [if_pos c, q] at e; exact absurd e n10
  · have := (lfl_lo hl (S.2.2.1 - 1) 0 (by omega)).1
    rw [show 0 + (S.2.2.1 - 1) = S.2.2.1 - 1 from Nat.zero_add _] at this
    rw [if_neg c, ← e3, ← e2]
    exact congrArg (fun n => cvI (nI n)) this
theorem st_time (h : REL I M S) {f g : Nat} (hf : 100 ≤ f) (hf2 : f ≤ 900) (hg : g ≤ 50) (e1 : M 0 13 = nI f) (e2 : M 0 14 = nI g) (t : Int32) (w : WF (ktm t) I J (fun x J => ktm t = 0 ∧ I = J ∧ tms I t.toNatClampNeg = x) x) : up2 M 0 15 (tmC t) 0 15 = nI (ktm t) ∧ (ktm t = 0 → x = if tmC t = 0 then tmM f g t.toNatClampNeg else 0) ∧ REL J (up2 M 0 15 (tmC t)) S := by
  have e := c_tm t
  refine st_ro h e w (fun q ⟨_, z1, z2⟩ => ⟨z1, ?_⟩)
  have hw : ¬ wi t 0 200 = 0 := fun z => by unfold ktm at q; rw [if_pos z] at q; cases q
  obtain ⟨m, hm, -, e9⟩ := k_wi (n := 200) rfl (by decide) hw
  rw [e, q, if_pos nI00, ← z2, e9]
  exact tms_tm h.2.2.2.1 hf hf2 hg e1 e2 m hm
end RO
