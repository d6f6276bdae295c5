/-! NUMBERS WITH A POINT: rows that the class and its reference need; a quotient of whole numbers is a number -/
theorem n64_of {a : UInt64} {K : Nat} (h : a.toNat % 2 ^ 63 < K * 2 ^ 52) (hK : K ≤ 2047) : vf_n64 a := by
  show a &&& 0x7fffffffffffffff ≤ 0x7ff0000000000000
  rw [UInt64.le_iff_toNat_le, UInt64.toNat_and, show (0x7fffffffffffffff : UInt64).toNat = 2 ^ 63 - 1 from rfl, Nat.and_two_pow_sub_one_eq_mod, show (0x7ff0000000000000 : UInt64).toNat = 2047 * 2 ^ 52 from rfl]
  exact Nat.le_of_lt (Nat.lt_of_lt_of_le h (Nat.mul_le_mul_right _ hK))
theorem n32_of {a : UInt32} {K : Nat} (h : a.toNat % 2 ^ 31 < K * 2 ^ 23) (hK : K ≤ 255) : vf_n32 a := by
  show a &&& 0x7fffffff ≤ 0x7f800000
  rw [UInt32.le_iff_toNat_le, UInt32.toNat_and, show (0x7fffffff : UInt32).toNat = 2 ^ 31 - 1 from rfl, Nat.and_two_pow_sub_one_eq_mod, show (0x7f800000 : UInt32).toNat = 255 * 2 ^ 23 from rfl]
  exact Nat.le_of_lt (Nat.lt_of_lt_of_le h (Nat.mul_le_mul_right _ hK))
theorem i32_ne {x : Int32} (h : ¬ x = 0) : x.toInt ≠ 0 := fun q => h (Int32.toInt_inj.mp q)
theorem ddiv_ok (x : Int32) {y : Int32} (h : ¬ y = 0) : vf_n64 (FP.ddiv (FP.i2d x) (FP.i2d y)) :=
  n64_of (FP.Core.ddiv_mag (K := 1056) (L := 1023) (FP.Core.i2d_mag x) (FP.Core.i2d_big (i32_ne h)).1 (FP.Core.i2d_big (i32_ne h)).2 (by decide) (by decide)) (by decide)
theorem fdiv_ok (x : Int32) {y : Int32} (h : ¬ y = 0) : vf_n32 (FP.fdiv (FP.i2f x) (FP.i2f y)) :=
  n32_of (FP.Core.fdiv_mag (K := 160) (L := 127) (FP.Core.i2f_mag x) (FP.Core.i2f_big (i32_ne h)).1 (FP.Core.i2f_big (i32_ne h)).2 (by decide) (by decide)) (by decide)
section XF
variable {p : Program} {l : Launch} {e : Env} {R : Room} {s : State} {m : MethodId} {args : Array Value} {below : List Frame} {meth : Method} {c : Code} {Q : State → Prop}
variable {g : xg_T} {cc : ByteArray} {nL : Nat} {own : String} {ret : Option FieldType} {tb : List ExceptionTableEntry} {w : xw_T} {sz k n pc : Nat} {lv : List (Nat × Value)} {rest : List Value}
variable {P : Option Value → xw_T → Nat → Prop} {X : String → xw_T → Nat → Prop} {mc ms : Nat}
theorem x_i2d {x : Int32} (p1 : Nat) (C0 : xC p l s m args meth c g cc nL own ret tb) (hd : decode cc pc = .ok (.i2d, 1)) (hp : pc + 1 = p1) (k1 : xV p l e R s m args below meth c Q g nL w sz k n p1 lv (.double (FP.i2d x) :: rest)) : xV p l e R s m args below meth c Q g nL w sz k n pc lv (.int x :: rest) := by
  intro H locs ls h1 h2 h3 h4
  subst hp
  exact lv_i2d C0.1 C0.2.1 hd (k1 H locs ls h1 h2 h3 h4)
theorem x_i2f {x : Int32} (p1 : Nat) (C0 : xC p l s m args meth c g cc nL own ret tb) (hd : decode cc pc = .ok (.i2f, 1)) (hp : pc + 1 = p1) (k1 : xV p l e R s m args below meth c Q g nL w sz k n p1 lv (.float (FP.i2f x) :: rest)) : xV p l e R s m args below meth c Q g nL w sz k n pc lv (.int x :: rest) := by
  intro H locs ls h1 h2 h3 h4
  subst hp
  exact lv_i2f C0.1 C0.2.1 hd (k1 H locs ls h1 h2 h3 h4)
theorem x_ddiv {x y : UInt64} (p1 : Nat) (C0 : xC p l s m args meth c g cc nL own ret tb) (hd : decode cc pc = .ok (.ddiv, 1)) (hp : pc + 1 = p1) (hne : vf_n64 (FP.ddiv x y)) (k1 : xV p l e R s m args below meth c Q g nL w sz k n p1 lv (.double (FP.ddiv x y) :: rest)) : xV p l e R s m args below meth c Q g nL w sz k n pc lv (.double y :: .double x :: rest) := by
  intro H locs ls h1 h2 h3 h4
  subst hp
  exact lv_ddiv C0.1 C0.2.1 hd hne (k1 H locs ls h1 h2 h3 h4)
theorem x_fdiv {x y : UInt32} (p1 : Nat) (C0 : xC p l s m args meth c g cc nL own ret tb) (hd : decode cc pc = .ok (.fdiv, 1)) (hp : pc + 1 = p1) (hne : vf_n32 (FP.fdiv x y)) (k1 : xV p l e R s m args below meth c Q g nL w sz k n p1 lv (.float (FP.fdiv x y) :: rest)) : xV p l e R s m args below meth c Q g nL w sz k n pc lv (.float y :: .float x :: rest) := by
  intro H locs ls h1 h2 h3 h4
  subst hp
  exact lv_fdiv C0.1 C0.2.1 hd hne (k1 H locs ls h1 h2 h3 h4)
theorem x_f2d {x : UInt32} (p1 : Nat) (C0 : xC p l s m args meth c g cc nL own ret tb) (hd : decode cc pc = .ok (.f2d, 1)) (hp : pc + 1 = p1) (hne : vf_n64 (FP.f2d x)) (k1 : xV p l e R s m args below meth c Q g nL w sz k n p1 lv (.double (FP.f2d x) :: rest)) : xV p l e R s m args below meth c Q g nL w sz k n pc lv (.float x :: rest) := by
  intro H locs ls h1 h2 h3 h4
  subst hp
  exact lv_f2d C0.1 C0.2.1 hd hne (k1 H locs ls h1 h2 h3 h4)
theorem x_dreturn (C0 : xC p l s m args meth c g cc nL own ret tb) {v : UInt64} (hd : decode cc pc = .ok (.dreturn, 1)) (hr : ret = some .double) (hk : k ≤ mc) (hs : n ≤ ms) (hP : P (some (.double v)) w sz) : xV p l e R s m args below meth c (xQ g below P X args s mc ms) g nL w sz k n pc lv [.double v] := by
  intro H locs ls h1 h2 h3 h4
  refine W.widen hk hs (vx_ret ?_)
  exact W.dret C0.1 C0.2.1 (C0.2.2.2.2.2.2.1.trans hr) (fun t ht _ => xQc.mk h1 h2 h3 hP t ht) h3.2.2 hd C0.2.2.2.2.2.1
theorem x_freturn (C0 : xC p l s m args meth c g cc nL own ret tb) {v : UInt32} (hd : decode cc pc = .ok (.freturn, 1)) (hr : ret = some .float) (hk : k ≤ mc) (hs : n ≤ ms) (hP : P (some (.float v)) w sz) : xV p l e R s m args below meth c (xQ g below P X args s mc ms) g nL w sz k n pc lv [.float v] := by
  intro H locs ls h1 h2 h3 h4
  refine W.widen hk hs (vx_ret ?_)
  exact W.fret C0.1 C0.2.1 (C0.2.2.2.2.2.2.1.trans hr) (fun t ht _ => xQc.mk h1 h2 h3 hP t ht) h3.2.2 hd C0.2.2.2.2.2.1
end XF
theorem f2d_ok {x : UInt32} (h : vf_n32 x) : vf_n64 (FP.f2d x) := by
  have h1 : FP.Core.fIsNaN x = false := by
    cases hz : FP.Core.fIsNaN x with
    | false => rfl
    | true =>
      exfalso
      have h2 := (FP.Core.isNaN_bits32 x).mp hz
      have h3 : x &&& 0x7fffffff ≤ 0x7f800000 := h
      rw [UInt32.le_iff_toNat_le, UInt32.toNat_and, show (0x7fffffff : UInt32).toNat = 2 ^ 31 - 1 from rfl, Nat.and_two_pow_sub_one_eq_mod, show (0x7f800000 : UInt32).toNat = 2139095040 from rfl] at h3
      omega
  have h4 : FP.Core.dIsNaN (FP.f2d x) = false := by
    have := FP.f2d_nan x
    exact this.trans h1
  show FP.f2d x &&& 0x7fffffffffffffff ≤ 0x7ff0000000000000
  rw [UInt64.le_iff_toNat_le, UInt64.toNat_and, show (0x7fffffffffffffff : UInt64).toNat = 2 ^ 63 - 1 from rfl, Nat.and_two_pow_sub_one_eq_mod, show (0x7ff0000000000000 : UInt64).toNat = 9218868437227405312 from rfl]
  refine Nat.le_of_not_lt (fun q => ?_)
  rw [(FP.Core.isNaN_bits _).mpr q] at h4
  cases h4
/-! ENDS OF THE OBJECT'S METHODS -/
theorem isB_bi (b : Bool) : isB (bi b) := by
  cases b
  · exact Or.inl rfl
  · exact Or.inr rfl
theorem tri.ok {C : Prop} {z x x' : Nat → Int32} {r : Option Value} (h : tri C z x x' r) (hz : C → hok z) (hx : hok x) : hok x' ∧ ∃ b : Int32, r = some (.int b) ∧ isB b := by
  rcases h with ⟨h1, h2, rfl⟩ | ⟨-, h2, h3⟩
  · exact ⟨hz h1, 1, h2, Or.inr rfl⟩
  · exact ⟨hx.refu h3, 0, h2, Or.inl rfl⟩
def cPo (g : xg_T) (w : xw_T) (sz n : Nat) (R : Option Value → Prop) : Option Value → xw_T → Nat → Prop := fun r w1 sz1 => R r ∧ CI g w1 sz1 n ∧ xFr g w w1 sz ∧ sz ≤ sz1
def cXo (g : xg_T) (w : xw_T) (sz n : Nat) (L : List String) : String → xw_T → Nat → Prop := fun E w1 sz1 => E ∈ L ∧ CI g w1 sz1 n ∧ xFr g w w1 sz ∧ sz ≤ sz1
def rD (r : Option Value) : Prop := ∃ v : UInt64, r = some (.double v)
def rF (r : Option Value) : Prop := ∃ v : UInt32, r = some (.float v) ∧ vf_n32 v
theorem rowRef {b r : Nat} (hr : r < 9) : va_rf ((fun j => if j < 9 then some (b + 49 + 23 * j) else none) (nI r).toNatClampNeg) = .ref (b + 49 + 23 * r) := by
  rw [nI_clamp (by omega)]
  show va_rf (if r < 9 then _ else _) = _
  rw [if_pos hr]
  rfl
theorem CR.grow {g : xg_T} {w : xw_T} {sz sz1 n : Nat} {x : Nat → Nat → Int32} {la : Nat → Nat → Nat} {t tt : Nat → Int32} {vb : Option Nat} {sg : Nat → Int32} (h : CR g w sz n x la t tt vb sg) (hz : sz ≤ sz1) : CR g w sz1 n x la t tt vb sg := h.go (fun _ _ _ => rfl) (fun _ _ _ => rfl) hz
