/-! a double beside itself -/
theorem n64_nan {a : UInt64} (h : vf_n64 a) : FP.Core.val64 a ≠ .nan := by
  refine (FP.Core.ne_nan a).mpr ?_
  have h3 : a &&& 0x7fffffffffffffff ≤ 0x7ff0000000000000 := h
  rw [UInt64.le_iff_toNat_le, UInt64.toNat_and, show (0x7fffffffffffffff : UInt64).toNat = 2 ^ 63 - 1 from rfl, Nat.and_two_pow_sub_one_eq_mod, show (0x7ff0000000000000 : UInt64).toNat = 9218868437227405312 from rfl] at h3
  exact h3
section XDC
variable {p : Program} {l : Launch} {e : Env} {R : Room} {s : State} {m : MethodId} {args : Array Value} {below : List Frame} {meth : Method} {c : Code} {Q : State → Prop}
variable {g : xg_T} {cc : ByteArray} {nL : Nat} {own : String} {ret : Option FieldType} {tb : List ExceptionTableEntry} {w : xw_T} {sz k n pc : Nat} {lv : List (Nat × Value)} {rest : List Value}
theorem x_dcmpE {x y : UInt64} {op : CmpOp} (p1 : Nat) (C0 : xC p l s m args meth c g cc nL own ret tb) (hd : decode cc pc = .ok (.dcmp op, 1)) (hp : pc + 1 = p1) (he : x = y) (hn : vf_n64 x) (k1 : xV p l e R s m args below meth c Q g nL w sz k n p1 lv (.int 0 :: rest)) : xV p l e R s m args below meth c Q g nL w sz k n pc lv (.double y :: .double x :: rest) := by
  intro H locs ls h1 h2 h3 h4
  subst hp he
  refine lv_dcmp C0.1 C0.2.1 hd ?_
  have e1 : FP.dcmp x x = some .eq := FP.Core.dcmp_self (n64_nan hn)
  rw [e1]
  have e2 : Op.cmpValue (some .eq) op = 0 := by cases op <;> rfl
  rw [e2]
  exact k1 H locs ls h1 h2 h3 h4
theorem x_fload (j : Nat) {i : Nat} {x : UInt32} (p1 : Nat) (C0 : xC p l s m args meth c g cc nL own ret tb) (hd : decode cc pc = .ok (.fload i, 2)) (hp : pc + 2 = p1) (hl : lv[j]? = some (i, .float x)) (k1 : xV p l e R s m args below meth c Q g nL w sz k n p1 lv (.float x :: rest)) : xV p l e R s m args below meth c Q g nL w sz k n pc lv rest := by
  intro H locs ls h1 h2 h3 h4
  subst hp
  exact lv_fload C0.1 C0.2.1 hd (lv_at h4 j hl) (k1 H locs ls h1 h2 h3 h4)
theorem x_dload (j : Nat) {i : Nat} {x : UInt64} (p1 : Nat) (C0 : xC p l s m args meth c g cc nL own ret tb) (hd : decode cc pc = .ok (.dload i, 2)) (hp : pc + 2 = p1) (hl : lv[j]? = some (i, .double x)) (k1 : xV p l e R s m args below meth c Q g nL w sz k n p1 lv (.double x :: rest)) : xV p l e R s m args below meth c Q g nL w sz k n pc lv rest := by
  intro H locs ls h1 h2 h3 h4
  subst hp
  exact lv_dload C0.1 C0.2.1 hd (lv_at h4 j hl) (k1 H locs ls h1 h2 h3 h4)
end XDC
