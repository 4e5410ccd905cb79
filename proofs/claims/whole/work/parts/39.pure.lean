theorem c1_pos {S : SZ} (hS : WS S) {j : Nat} (h : j < S.1) : 0 < S.2.2.2.1 := by have := hS.2.2.2.1; omega
theorem c2_pos {S : SZ} (hS : WS S) {j : Nat} (h : j < S.2.1) : 0 < S.2.2.2.2.1 := by have := hS.2.2.2.2.1; omega
theorem c3_pos {S : SZ} (hS : WS S) {j : Nat} (h : j < S.2.2.1) : 0 < S.2.2.2.2.2 := by have := hS.2.2.2.2.2.1; omega
theorem mN_1 {S : SZ} (hS : WS S) : mN (1000 + S.2.2.2.1) = S.2.2.2.1 := by
  have := hS.c1
  have h := mN_e (j := 1) (c := S.2.2.2.1) (by omega) (by omega) (by omega)
  rwa [Nat.mul_one] at h
theorem mN_2 {S : SZ} (hS : WS S) : mN (2000 + S.2.2.2.2.1) = S.2.2.2.2.1 := by
  have := hS.c2
  have h := mN_e (j := 2) (c := S.2.2.2.2.1) (by omega) (by omega) (by omega)
  rwa [show 1000 * 2 = 2000 from rfl] at h
theorem mN_3 {S : SZ} (hS : WS S) : mN (3000 + S.2.2.2.2.2) = S.2.2.2.2.2 := by
  have := hS.c3
  have h := mN_e (j := 3) (c := S.2.2.2.2.2) (by omega) (by omega) (by omega)
  rwa [show 1000 * 3 = 3000 from rfl] at h
theorem mR_11 {S : SZ} (h : 0 < S.2.2.2.1) : mR S 1 1 = some (1000 + S.2.2.2.1) := by
  have := mE_p (j := 1) h
  rw [Nat.mul_one] at this
  exact this
theorem mR_21 {S : SZ} (h : 0 < S.2.2.2.2.1) : mR S 2 1 = some (2000 + S.2.2.2.2.1) := by
  have := mE_p (j := 2) h
  rw [show 1000 * 2 = 2000 from rfl] at this
  exact this
theorem mR_31 {S : SZ} (h : 0 < S.2.2.2.2.2) : mR S 3 1 = some (3000 + S.2.2.2.2.2) := by
  have := mE_p (j := 3) h
  rw [show 1000 * 3 = 3000 from rfl] at this
  exact this
section QGET
variable {D : va_G} {dT : Nat → ClassId} {Z : ZT} {I : Nat → Nat → Int32} {Rr : Nat → Nat → Option Nat} {ad : Nat → Nat} {L : List Nat}
theorem q_get1 (S : SZ) (hS : WS S) (hLs : ∀ i ∈ mL S, i ∈ L) (hRs : ∀ i ∈ mL S, Rr i = mR S i) (h12 : I 1 2 = nI S.1) (j : Nat) (hj : j < S.1) : ∀ l8, BQ l8 yJx4a65c_get_915e3 wsJx4a65c_get_915e3 rm_Jx4a65c_get_915e3 D (tyl dT) Z ad L (pf dT mK mN I Rr ad) [.ref (ad 1), .int (nI j)] 0 0 (fun r u => u = (ad, L, pf dT mK mN I Rr ad) ∧ some (ad (5000 + j)) = r) := by
  have hc := c1_pos hS hj
  have h10 := hS.c1
  have he := m_e1 hS hc
  exact k_Jx4a65c_get_915e3 1 (hLs 1 (m_lo (by decide))) rfl (1000 + S.2.2.2.1) (hLs _ he) (mK_e (by omega) (by omega)) (by rw [hRs 1 (m_lo (by decide))]; exact mR_11 hc) S.1 (by rw [mN_1 hS]; exact hS.2.2.2.1) (by rw [mN_1 hS]; omega) j (5000 + j) hj (by rw [hRs _ he, mR_1 (by omega), if_pos hj]) h12
theorem q_get2 (S : SZ) (hS : WS S) (hLs : ∀ i ∈ mL S, i ∈ L) (hRs : ∀ i ∈ mL S, Rr i = mR S i) (h12 : I 2 2 = nI S.2.1) (j : Nat) (hj : j < S.2.1) : ∀ l8, BQ l8 yJx4a65c_get_915e3 wsJx4a65c_get_915e3 rm_Jx4a65c_get_915e3 D (tyl dT) Z ad L (pf dT mK mN I Rr ad) [.ref (ad 2), .int (nI j)] 0 0 (fun r u => u = (ad, L, pf dT mK mN I Rr ad) ∧ some (ad (7000 + j)) = r) := by
  have hc := c2_pos hS hj
  have h10 := hS.c2
  have he := m_e2 hS hc
  exact k_Jx4a65c_get_915e3 2 (hLs 2 (m_lo (by decide))) rfl (2000 + S.2.2.2.2.1) (hLs _ he) (mK_e (by omega) (by omega)) (by rw [hRs 2 (m_lo (by decide))]; exact mR_21 hc) S.2.1 (by rw [mN_2 hS]; exact hS.2.2.2.2.1) (by rw [mN_2 hS]; omega) j (7000 + j) hj (by rw [hRs _ he, mR_2 (by omega), if_pos hj]) h12
theorem q_get3 (S : SZ) (hS : WS S) (hLs : ∀ i ∈ mL S, i ∈ L) (hRs : ∀ i ∈ mL S, Rr i = mR S i) (h12 : I 3 2 = nI S.2.2.1) (j : Nat) (hj : j < S.2.2.1) : ∀ l8, BQ l8 yJx4a65c_get_915e3 wsJx4a65c_get_915e3 rm_Jx4a65c_get_915e3 D (tyl dT) Z ad L (pf dT mK mN I Rr ad) [.ref (ad 3), .int (nI j)] 0 0 (fun r u => u = (ad, L, pf dT mK mN I Rr ad) ∧ some (ad (8000 + j)) = r) := by
  have hc := c3_pos hS hj
  have h10 := hS.c3
  have he := m_e3 hS hc
  exact k_Jx4a65c_get_915e3 3 (hLs 3 (m_lo (by decide))) rfl (3000 + S.2.2.2.2.2) (hLs _ he) (mK_e (by omega) (by omega)) (by rw [hRs 3 (m_lo (by decide))]; exact mR_31 hc) S.2.2.1 (by rw [mN_3 hS]; exact hS.2.2.2.2.2.1) (by rw [mN_3 hS]; omega) j (8000 + j) hj (by rw [hRs _ he, mR_3 (by omega), if_pos hj]) h12
end QGET
