theorem nn_ddiv {x y : Int32} (h : ¬ y = 0) : vf_n64 (FP.ddiv (FP.i2d x) (FP.i2d y)) := by
  have hy := Jvm.FP.Core.i2d_big (Jvm.FP.Core.int32_ne h)
  have hx := Jvm.FP.Core.i2d_mag x
  have hm := Jvm.FP.Core.ddiv_mag (a := Jvm.FP.Core.i2d x) (b := Jvm.FP.Core.i2d y) (K := 1056) (L := 1023) hx hy.1 hy.2 (by decide) (by decide)
  have h1 : (Jvm.FP.Core.ddiv (Jvm.FP.Core.i2d x) (Jvm.FP.Core.i2d y)).toNat % 2 ^ 63 ≤ 9218868437227405312 := by omega
  unfold vf_n64
  show Jvm.FP.Core.ddiv (Jvm.FP.Core.i2d x) (Jvm.FP.Core.i2d y) &&& 0x7fffffffffffffff ≤ 0x7ff0000000000000
  generalize Jvm.FP.Core.ddiv (Jvm.FP.Core.i2d x) (Jvm.FP.Core.i2d y) = r at h1 ⊢
  rw [UInt64.le_iff_toNat_le, UInt64.toNat_and, show (0x7fffffffffffffff : UInt64).toNat = 2 ^ 63 - 1 from rfl, Nat.and_two_pow_sub_one_eq_mod]
  exact h1
theorem nn_fdiv {x y : Int32} (h : ¬ y = 0) : vf_n32 (FP.fdiv (FP.i2f x) (FP.i2f y)) := by
  have hy := Jvm.FP.Core.i2f_big (Jvm.FP.Core.int32_ne h)
  have hx := Jvm.FP.Core.i2f_mag x
  have hm := Jvm.FP.Core.fdiv_mag (a := Jvm.FP.Core.i2f x) (b := Jvm.FP.Core.i2f y) (K := 160) (L := 127) hx hy.1 hy.2 (by decide) (by decide)
  have h1 : (Jvm.FP.Core.fdiv (Jvm.FP.Core.i2f x) (Jvm.FP.Core.i2f y)).toNat % 2 ^ 31 ≤ 2139095040 := by omega
  unfold vf_n32
  show Jvm.FP.Core.fdiv (Jvm.FP.Core.i2f x) (Jvm.FP.Core.i2f y) &&& 0x7fffffff ≤ 0x7f800000
  generalize Jvm.FP.Core.fdiv (Jvm.FP.Core.i2f x) (Jvm.FP.Core.i2f y) = r at h1 ⊢
  rw [UInt32.le_iff_toNat_le, UInt32.toNat_and, show (0x7fffffff : UInt32).toNat = 2 ^ 31 - 1 from rfl, Nat.and_two_pow_sub_one_eq_mod]
  exact h1
section
variable {X : EN} {D : va_G} {tys : List (ClassId × FieldType)} {cc : ByteArray} {own : String} {Ts : List Cond} {rm : Room} {nL : Nat} {ad : Nat → Nat} {L : List Nat} {f : Nat → va_E} {lv : List (Nat × Value)} {ce sl pc : Nat} {st : List Value}
theorem g_fdiv (hX : CX X D tys cc own Ts rm nL) {x y : UInt32} (hdg : decode cc pc = .ok (.fdiv, 1)) (hne : vf_n32 (FP.fdiv x y)) (hk : GG X D ad L f lv ce sl (pc + 1) (.float (FP.fdiv x y) :: st)) : GG X D ad L f lv ce sl pc (.float y :: .float x :: st) := by
  obtain ⟨p, l, e, R, s, m, args, below, meth, c, Q, nL2, A, H0⟩ := X
  obtain ⟨hx, hb, hml, hown, hts, hK, hA, rfl, rfl, hlk⟩ := hX
  intro H locs ls hP hD hS hl
  exact lv_fdiv hx hb hdg hne (hk H locs ls hP hD hS hl)
theorem g_ddiv (hX : CX X D tys cc own Ts rm nL) {x y : UInt64} (hdg : decode cc pc = .ok (.ddiv, 1)) (hne : vf_n64 (FP.ddiv x y)) (hk : GG X D ad L f lv ce sl (pc + 1) (.double (FP.ddiv x y) :: st)) : GG X D ad L f lv ce sl pc (.double y :: .double x :: st) := by
  obtain ⟨p, l, e, R, s, m, args, below, meth, c, Q, nL2, A, H0⟩ := X
  obtain ⟨hx, hb, hml, hown, hts, hK, hA, rfl, rfl, hlk⟩ := hX
  intro H locs ls hP hD hS hl
  exact lv_ddiv hx hb hdg hne (hk H locs ls hP hD hS hl)
end
theorem lo_0 {x : Int32} (h : ¬ x = 0) : ¬ x = 0 := h
def khs (I : Nat → Nat → Int32) : Nat := if I 3 8 = 0 then 1 else 0

