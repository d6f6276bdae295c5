/-! THE LAW'S CASES AND ITS LOOP -/
def AI (g : xg_T) (w : xw_T) (sz n B : Nat) : Prop := ∃ x la t tt vb sg LN LF tm v bf sv pa lb td sm c0, c0 ≤ B ∧ CR g w sz n x la t tt vb sg ∧ TX g w sz la LN LF ∧ MR g w tm v bf sv pa lb sg td sm ∧ MJ n tm v bf sv pa sm ∧ AL x t LN LF c0 tm v sv pa ∧ KI (4320 * B) tm v sv pa ∧ (B = 0 → x 0 208 = 0 ∧ tm 3 = 0)
def LA (g : xg_T) (w : xw_T) (sz n B : Nat) : Prop := AI g w sz n B ∧ wO g w ∧ wD g w
section LR
variable {g : xg_T} {w w1 : xw_T} {sz sz1 n a : Nat} {t v bf sv pa lb ip td sg : Nat → Int32} {la : Nat → Nat → Nat} {LN : Nat → Nat → Nat} {LF : Nat → Nat → Nat → Int32}
theorem MR.wf (h : MR g w t v bf sv pa lb ip td sg) (hF : wFr g w w1 sz a) (ha : a = 267 ∨ a = 268) (hz : g.2 0 + 269 ≤ sz) : MR g w1 t v bf sv pa lb ip td sg := fun j hj => (hF _ (by omega) (by omega) (by omega)).trans (h j hj)
theorem TX.wf (h : TX g w sz la LN LF) (hF : wFr g w w1 sz a) (ha : a = 267 ∨ a = 268) (hz : sz ≤ sz1) : TX g w1 sz1 la LN LF := fun i hi k hk => (h i hi k hk).go (fun q q1 q2 => hF q (by omega) q2 (by omega)) hz
theorem wD.wf (h : wD g w) (hF : wFr g w w1 sz 267) (hz : g.2 0 + 269 ≤ sz) : wD g w1 := by
  obtain ⟨f, h⟩ := h
  exact ⟨f, (hF _ (by omega) (by omega) (by omega)).trans h⟩
theorem wO.wf (h : wO g w) (hF : wFr g w w1 sz 268) (hz : g.2 0 + 269 ≤ sz) : wO g w1 := by
  obtain ⟨f, h⟩ := h
  exact ⟨f, (hF _ (by omega) (by omega) (by omega)).trans h⟩
theorem wO.xf (h : wO g w) (hF : xFr g w w1 sz) (hz : g.2 0 + 269 ≤ sz) : wO g w1 := by
  obtain ⟨f, h⟩ := h
  exact ⟨f, hF.o hz h⟩
theorem CR.mw {x : Nat → Nat → Int32} {t0 tt : Nat → Int32} {vb : Option Nat} {s0 : Nat → Int32} (h : CR g w sz n x la t0 tt vb s0) : CR g (MW g w t v bf sv pa lb ip td sg) sz n x la t0 tt vb s0 := h.go (fun q q1 q2 => MW_ne (by omega)) (fun q q1 q2 => MW_ne (by omega)) (Nat.le_refl _)
theorem TX.mw (h : TX g w sz la LN LF) : TX g (MW g w t v bf sv pa lb ip td sg) sz la LN LF := fun i hi k hk => (h i hi k hk).go (fun q q1 q2 => MW_ne (by omega)) (Nat.le_refl _)
theorem wO.mw (h : wO g w) : wO g (MW g w t v bf sv pa lb ip td sg) := by
  obtain ⟨f, h⟩ := h
  exact ⟨f, (MW_ne (by omega)).trans h⟩
theorem wD.mw (h : wD g w) : wD g (MW g w t v bf sv pa lb ip td sg) := by
  obtain ⟨f, h⟩ := h
  exact ⟨f, (MW_ne (by omega)).trans h⟩
theorem AL.tm {x : Nat → Nat → Int32} {t0 tm tm' v0 sv0 pa0 : Nat → Int32} {c0 : Nat} (h : AL x t0 LN LF c0 tm v0 sv0 pa0) (h2 : tm' 2 = tm 2) (h7 : tm' 7 = tm 7) : AL x t0 LN LF c0 tm' v0 sv0 pa0 := AL.no h (fun _ _ => rfl) (fun _ _ _ => rfl) (fun _ _ => ⟨rfl, rfl⟩) rfl (fun _ _ => rfl) rfl h2 h7
theorem cP_r {X : Option Value → (Nat → Int32) → (Nat → Int32) → Prop} {ja jb jc : Int32} {r : Option Value} {t' v' pa' : Nat → Int32} (h : cP t v pa X ja jb jc r t' v' pa') : ∃ z : Int32, r = some (.int z) := by
  obtain ⟨a, t1, v1, bf, -, -, -, hE⟩ := h
  exact endP_r hE
theorem nar_c2 (z : Int32) : vp_nar .char (z.toUInt32 % 65536).toInt32 = (z.toUInt32 % 65536).toInt32 := by
  have h : (z.toUInt32 % 65536).toInt32 = nI (z.toBitVec.toNat % 65536) := pk_char z
  rw [h]
  unfold vp_nar
  rw [(pk_charN (Nat.mod_lt _ (by decide))).1]
end LR
theorem law_ix {L i : Nat} (hL : L ≤ 2560) (hi : i ≤ 2560) (h : ¬ nI L - 5 < nI i) : i + 5 ≤ L := by
  rcases Nat.lt_or_ge L 5 with h5 | h5
  · exfalso
    refine h ?_
    have h0 : (0 : Int32) ≤ nI i := nI_pos' (by omega)
    have h1 : nI L - 5 < 0 := by
      have : L = 0 ∨ L = 1 ∨ L = 2 ∨ L = 3 ∨ L = 4 := by omega
      rcases this with rfl | rfl | rfl | rfl | rfl <;> decide
    exact Int32.lt_of_lt_of_le h1 h0
  · obtain ⟨j, rfl⟩ : ∃ j, L = j + 5 := ⟨L - 5, by omega⟩
    have e : nI (j + 5) - 5 = nI j := by
      rw [← nI_add j 5]
      exact Int32.add_sub_cancel _ _
    rw [e] at h
    have h2 : ¬ j < i := fun z => h ((nI_ltI (by omega) (by omega)).mpr z)
    omega

theorem LA.more {g : xg_T} {w : xw_T} {sz n B : Nat} (h : LA g w sz n B) : LA g w sz n (B + 1) := by
  obtain ⟨⟨x, la, t, tt, vb, sg, LN, LF, tm, v, bf, sv, pa, lb, td, sm, c0, hc0, a1, a2, a3, a4, a5, a6, a7⟩, h2⟩ := h
  exact ⟨⟨x, la, t, tt, vb, sg, LN, LF, tm, v, bf, sv, pa, lb, td, sm, c0, Nat.le_succ_of_le hc0, a1, a2, a3, a4, a5, a6.tm rfl (by omega), fun h => absurd h (Nat.succ_ne_zero _)⟩, h2⟩
/-! the reads leave all as it is -/
section RDS
variable {g : xg_T} {x x' : Nat → Nat → Int32} {la la' : Nat → Nat → Nat} {t t' v tm : Nat → Int32} {r rm : Option Value} {E : String} {z : Int32} {n : Nat} {ln : Nat → Nat} {lf : Nat → Nat → Int32} {a b : Int32}
theorem st_leaves (h : L_X7_leaves g x la t a b r x' la' t') : x' = x ∧ la' = la ∧ t' = t := by
  obtain ⟨v1, -, -, -, h⟩ := h
  exact h
theorem sx_leaves (h : E_X7_leaves g x la t a b E x' la' t') : x' = x ∧ la' = la ∧ t' = t := by
  obtain ⟨-, -, h⟩ := h
  exact h
theorem st_height (h : L_X7_height g x la t a r x' la' t') : x' = x ∧ la' = la ∧ t' = t := by
  obtain ⟨v1, -, -, -, h⟩ := h
  exact h
theorem sx_height (h : E_X7_height g x la t a E x' la' t') : x' = x ∧ la' = la ∧ t' = t := by
  obtain ⟨-, -, h⟩ := h
  exact h
theorem st_cargo (h : L_X7_cargo g x la t r x' la' t') : x' = x ∧ la' = la ∧ t' = t := by
  obtain ⟨v1, -, -, h⟩ := h
  exact h
theorem rd_height_y (hs : Int32) (hA : hAl (x 0) ln lf v) (_ : hok (x 0)) (hQ : Q_X8_height n tm v hs rm z) (hL : L_X7_height g x la t hs r x' la' t') : r = rm ∧ z = 0 := by
  obtain ⟨v1, hp, hv, rfl, -⟩ := hL
  rcases hQ with ⟨-, q1, q2⟩ | ⟨q, -⟩
  · refine ⟨?_, q1⟩
    rw [q2, hv, tide_hgt, hA.1.at (by omega)]
  · exact absurd hp q
theorem rd_height_n (hs : Int32) (_ : hAl (x 0) ln lf v) (_ : hok (x 0)) (hQ : Q_X8_height n tm v hs rm z) (hE : E_X7_height g x la t hs E x' la' t') : z = kc [("java/lang/IllegalArgumentException", 1)] E := by
  obtain ⟨rfl, hp, -⟩ := hE
  rcases hQ with ⟨q, -⟩ | ⟨-, q1, -⟩
  · exact absurd q hp
  · exact q1.trans (by decide +kernel)
theorem kc_height {hs : Int32} (hE : E_X7_height g x la t hs E x' la' t') : ¬ kc [("java/lang/IllegalArgumentException", 1)] E = 0 := by
  obtain ⟨rfl, -⟩ := hE
  decide +kernel
theorem rd_leaves_y (ga ki : Int32) (hA : hAl (x 0) ln lf v) (_ : hok (x 0)) (hQ : Q_X8_leaves n tm v ga ki rm z) (hL : L_X7_leaves g x la t ga ki r x' la' t') : r = rm ∧ z = 0 := by
  obtain ⟨v1, hp, hv, rfl, -⟩ := hL
  rcases hQ with ⟨c, d, rfl, rfl, hc, hd, q1, q2⟩ | ⟨q, -⟩
  · refine ⟨?_, q1⟩
    rw [q2, hv, sGet_n hc hd, hA.1.at (by omega)]
  · exact absurd hp (isLeaf_no q)
theorem rd_leaves_n (ga ki : Int32) (_ : hAl (x 0) ln lf v) (_ : hok (x 0)) (hQ : Q_X8_leaves n tm v ga ki rm z) (hE : E_X7_leaves g x la t ga ki E x' la' t') : z = kc [("java/lang/IndexOutOfBoundsException", 1)] E := by
  obtain ⟨rfl, hp, -⟩ := hE
  rcases hQ with ⟨c, d, rfl, rfl, hc, hd, -⟩ | ⟨-, q1, -⟩
  · exact absurd (isLeafB_n hc hd) (isLeaf_no hp)
  · exact q1.trans (by decide +kernel)
theorem kc_leaves {ga ki : Int32} (hE : E_X7_leaves g x la t ga ki E x' la' t') : ¬ kc [("java/lang/IndexOutOfBoundsException", 1)] E = 0 := by
  obtain ⟨rfl, -⟩ := hE
  decide +kernel
end RDS

section KCS
variable {g : xg_T} {x x1 : Nat → Nat → Int32} {la la1 : Nat → Nat → Nat} {t t1 : Nat → Int32} {a1 a2 a3 a4 : Int32} {E : String} {ln : Nat → Nat} {lf : Nat → Nat → Int32}
theorem kc_bring (h : E_X7_bring g x la t a1 a2 a3 E x1 la1 t1) : ¬ kc [("java/lang/IndexOutOfBoundsException", 1), ("java/lang/IllegalArgumentException", 2), ("java/lang/UnsupportedOperationException", 3)] E = 0 := by
  rcases ex_bring h with rfl | rfl | rfl <;> decide +kernel
theorem kc_buy (h : E_X7_buy g x la t a1 a2 E x1 la1 t1) : ¬ kc [("java/lang/IllegalArgumentException", 1)] E = 0 := by
  rcases ex_buy h with rfl <;> decide +kernel
theorem kc_empty (h : E_X7_empty g x la t a1 E x1 la1 t1) : ¬ kc [("java/lang/IndexOutOfBoundsException", 1), ("java/lang/UnsupportedOperationException", 2)] E = 0 := by
  rcases ex_empty h with rfl | rfl <;> decide +kernel
theorem kc_fill (h : E_X7_fill g x la t a1 a2 a3 a4 E x1 la1 t1) : ¬ kc [("java/lang/IndexOutOfBoundsException", 1), ("java/lang/IllegalArgumentException", 2), ("java/lang/UnsupportedOperationException", 3)] E = 0 := by
  rcases ex_fill h with rfl | rfl | rfl <;> decide +kernel
theorem kc_label (h : E_X7_label g x la t a1 E x1 la1 t1) : ¬ kc [("java/lang/IndexOutOfBoundsException", 1), ("java/lang/UnsupportedOperationException", 2)] E = 0 := by
  rcases ex_label h with rfl | rfl <;> decide +kernel
theorem kc_line (h : E_X7_line g x la t a1 E x1 la1 t1) : ¬ kc [("java/lang/IndexOutOfBoundsException", 1), ("java/lang/UnsupportedOperationException", 2)] E = 0 := by
  rcases ex_line h with rfl | rfl <;> decide +kernel
theorem kc_load (h : E_X7_load g x la t a1 E x1 la1 t1) : ¬ kc [("java/lang/IndexOutOfBoundsException", 1), ("java/lang/UnsupportedOperationException", 2)] E = 0 := by
  rcases ex_load h with rfl | rfl <;> decide +kernel
theorem kc_make (h : E_X7_make g x la t a1 E x1 la1 t1) : ¬ kc [("java/lang/IllegalArgumentException", 1), ("java/lang/UnsupportedOperationException", 2)] E = 0 := by
  rcases ex_make h with rfl | rfl <;> decide +kernel
theorem kc_pass (h : E_X7_pass g x la t a1 E x1 la1 t1) : ¬ kc [("java/lang/IllegalArgumentException", 1)] E = 0 := by
  rcases ex_pass h with rfl <;> decide +kernel
theorem kc_restore (h : E_X7_restore g x la t E x1 la1 t1) : ¬ kc [("java/lang/IllegalStateException", 1)] E = 0 := by
  rcases ex_restore h with rfl <;> decide +kernel
theorem kc_sail (h : E_X7_sail g x la t E x1 la1 t1) : ¬ kc [("java/lang/UnsupportedOperationException", 1)] E = 0 := by
  rcases ex_sail h with rfl <;> decide +kernel
theorem kc_screw (h : E_X7_screw g x la t a1 a2 E x1 la1 t1) : ¬ kc [("java/lang/IndexOutOfBoundsException", 1), ("java/lang/IllegalArgumentException", 2), ("java/lang/UnsupportedOperationException", 3)] E = 0 := by
  rcases ex_screw h with rfl | rfl | rfl <;> decide +kernel
theorem kc_setHumidity (h : E_X7_setHumidity g x la t a1 E x1 la1 t1) : ¬ kc [("java/lang/IllegalArgumentException", 1)] E = 0 := by
  rcases ex_setHumidity h with rfl <;> decide +kernel
theorem kc_toQuay (h : E_X7_toQuay g x la t a1 ln lf E x1 la1 t1) : ¬ kc [("java/lang/IndexOutOfBoundsException", 1), ("java/lang/UnsupportedOperationException", 2)] E = 0 := by
  rcases ex_toQuay h with rfl | rfl <;> decide +kernel
theorem kc_undo (h : E_X7_undo g x la t E x1 la1 t1) : ¬ kc [("java/lang/IllegalStateException", 1)] E = 0 := by
  rcases ex_undo h with rfl <;> decide +kernel
theorem kc_unscrew (h : E_X7_unscrew g x la t a1 E x1 la1 t1) : ¬ kc [("java/lang/IndexOutOfBoundsException", 1), ("java/lang/UnsupportedOperationException", 2)] E = 0 := by
  rcases ex_unscrew h with rfl | rfl <;> decide +kernel
end KCS
theorem cvB_z {v z z0 : Int32} (hs : (z0 = 1 ∧ some (Value.int z) = some (Value.int 1)) ∨ (¬ z0 = 1 ∧ some (Value.int z) = some (Value.int 0))) (hr : some (Value.int v) = some (Value.int z0)) (hb : some (Value.int v) = some (Value.int 0) ∨ some (Value.int v) = some (Value.int 1)) : cvB v = cvB z := by
  have e := Value.int.inj (Option.some.inj hr)
  rcases hs with ⟨h, q⟩ | ⟨h, q⟩
  · have e2 := Value.int.inj (Option.some.inj q)
    rw [e, e2, h]
  · have e2 := Value.int.inj (Option.some.inj q)
    rcases hb with hb | hb
    · rw [Value.int.inj (Option.some.inj hb), e2]
    · exact absurd (e.symm.trans (Value.int.inj (Option.some.inj hb))) h
section LC
variable {p : Program} {l : Launch} {e : Env} {s : State} {m : MethodId} {args : Array Value} {below : List Frame} {meth : Method} {cD : Code} {Q : State → Prop} {g : xg_T} {rt : Option FieldType} {tb : List ExceptionTableEntry} {b L : Nat} {xs : Nat → Int32}
set_option maxHeartbeats 4000000 in
set_option maxRecDepth 100000 in
theorem law_c0 (hl : l.stackTraces = false) (C0 : xC p l s m args meth cD g cL_law 9 RL rt tb) (hX : va_X b L xs s s.heap) (hbl : b < s.heap.size) (hbA : ¬ xA g b) (hL : L ≤ 5) (i n k q B : Nat) (hi : i + 5 ≤ L) (hB : B ≤ 512) (hB0 : B = 0) (w : xw_T) (sz : Nat) (hI : LA g w sz n B) (hk : k + 256 ≤ 600006) (hq : q + 2500 ≤ 7302056) (kk : ∀ (w1 : xw_T) (sz1 n1 : Nat), LA g w1 sz1 n1 (B + 1) → xV p l e room_1 s m args below meth cD Q g 9 w1 sz1 (k + 256) (q + 2500) 2017 [(0, .ref b), (1, .ref (g.2 0)), (2, .ref (g.2 0 + 258)), (3, .ref (g.2 0 + 267)), (4, .ref (g.2 0 + 268)), (5, .int (nI i))] []) : xV p l e room_1 s m args below meth cD Q g 9 w sz k q 196 [(0, .ref b), (1, .ref (g.2 0)), (2, .ref (g.2 0 + 258)), (3, .ref (g.2 0 + 267)), (4, .ref (g.2 0 + 268)), (5, .int (nI i))] [] := by
  obtain ⟨⟨x, la, t, tt, vb, sg, LN, LF, tm, v, bf, sv, pa, lb, td, sm, c0, hc0, hC, hT, hM, hJ, hA, hRI, hRR⟩, hO, hD⟩ := hI
  refine x_aload_n 1 197 C0 dL_law_196 rfl rfl rfl ?_
  refine x_aload_n 0 198 C0 dL_law_197 rfl rfl rfl ?_
  refine x_iload 5 200 C0 dL_law_198 rfl rfl ?_
  refine x_iconst (v := 1) 201 C0 dL_law_200 rfl (by decide) ?_
  refine x_iadd 202 C0 dL_law_201 rfl ?_
  refine x_st (st1 := [.int (nI (i + 1)), .ref b, .ref (g.2 0)]) (congrArg (fun z => Value.int z :: _) (nI_add i 1)) ?_
  refine x_sld 203 C0 hX hbl hbA (vp_in_nI (n := i + 1) (by omega) (by omega)) dL_law_202 rfl ?_
  refine x_aload_n 0 204 C0 dL_law_203 rfl rfl rfl ?_
  refine x_iload 5 206 C0 dL_law_204 rfl rfl ?_
  refine x_iconst (v := 2) 207 C0 dL_law_206 rfl (by decide) ?_
  refine x_iadd 208 C0 dL_law_207 rfl ?_
  refine x_st (st1 := [.int (nI (i + 2)), .ref b, .int (xs (nI (i + 1)).toNatClampNeg), .ref (g.2 0)]) (congrArg (fun z => Value.int z :: _) (nI_add i 2)) ?_
  refine x_sld 209 C0 hX hbl hbA (vp_in_nI (n := i + 2) (by omega) (by omega)) dL_law_208 rfl ?_
  refine x_aload_n 0 210 C0 dL_law_209 rfl rfl rfl ?_
  refine x_iload 5 212 C0 dL_law_210 rfl rfl ?_
  refine x_iconst (v := 3) 213 C0 dL_law_212 rfl (by decide) ?_
  refine x_iadd 214 C0 dL_law_213 rfl ?_
  refine x_st (st1 := [.int (nI (i + 3)), .ref b, .int (xs (nI (i + 2)).toNatClampNeg), .int (xs (nI (i + 1)).toNatClampNeg), .ref (g.2 0)]) (congrArg (fun z => Value.int z :: _) (nI_add i 3)) ?_
  refine x_sld 215 C0 hX hbl hbA (vp_in_nI (n := i + 3) (by omega) (by omega)) dL_law_214 rfl ?_
  refine x_aload_n 3 216 C0 dL_law_215 rfl rfl rfl ?_
  refine x_callSH 219 C0 (e_L_bring l hl g w sz n x la t tt vb sg hC hO ((xs (nI (i + 1)).toNatClampNeg)) ((xs (nI (i + 2)).toNatClampNeg)) ((xs (nI (i + 3)).toNatClampNeg))) dL_law_216 rfl mC_L_bring mM_L_124 mS_L_bring mN_L yd_L_bring rfl rfl ⟨(Nat.le_of_ble_eq_true rfl), (Nat.le_of_ble_eq_true rfl)⟩ rfl rfl (Nat.le_of_ble_eq_true rfl) ⟨by show k + 8 ≤ 600006; omega, by show q + 64 ≤ 7302056; omega⟩ (fun _ _ _ z => False.elim z) (fun r1 w1 sz1 _ hP1 => ?_)
  obtain ⟨k1, x1, la1, t1, rfl, hz1, hF1, hC1, hd1⟩ := hP1
  have hO1 : wO g w1 := by
    rcases hd1 with ⟨-, v9, f9, -, h9, -⟩ | ⟨h9, -⟩
    · exact ⟨f9, h9⟩
    · exact h9
  have hM1 := hM.wf hF1 (Or.inl rfl) hC.zz
  have hT1 := hT.wf hF1 (Or.inl rfl) hz1
  have hD1 := hD.wf hF1 hC.zz
  refine x_st (st1 := [.int k1]) rfl ?_
  refine x_istore [(6, .int k1), (0, .ref b), (1, .ref (g.2 0)), (2, .ref (g.2 0 + 258)), (3, .ref (g.2 0 + 267)), (4, .ref (g.2 0 + 268)), (5, .int (nI i))] 221 C0 dL_law_219 rfl (by decide) rfl ?_
  refine x_aload_n 3 222 C0 dL_law_221 rfl rfl rfl ?_
  refine x_aload_n 1 223 C0 dL_law_222 rfl rfl rfl ?_
  refine x_iload 6 225 C0 dL_law_223 rfl rfl ?_
  refine x_iconst (v := 1) 226 C0 dL_law_225 rfl (by decide) ?_
  refine x_iadd 227 C0 dL_law_226 rfl ?_
  refine x_st (st1 := [.int (nI (i + 1)), .ref b, .ref (g.2 0 + 258)]) (congrArg (fun z => Value.int z :: _) (nI_add i 1)) ?_
  refine x_sld 228 C0 hX hbl hbA (vp_in_nI (n := i + 1) (by omega) (by omega)) dL_law_227 rfl ?_
  refine x_aload_n 1 229 C0 dL_law_228 rfl rfl rfl ?_
  refine x_iload 6 231 C0 dL_law_229 rfl rfl ?_
  refine x_iconst (v := 2) 232 C0 dL_law_231 rfl (by decide) ?_
  refine x_iadd 233 C0 dL_law_232 rfl ?_
  refine x_st (st1 := [.int (nI (i + 2)), .ref b, .int (xs (nI (i + 1)).toNatClampNeg), .ref (g.2 0 + 258)]) (congrArg (fun z => Value.int z :: _) (nI_add i 2)) ?_
  refine x_sld 234 C0 hX hbl hbA (vp_in_nI (n := i + 2) (by omega) (by omega)) dL_law_233 rfl ?_
  refine x_aload_n 1 235 C0 dL_law_234 rfl rfl rfl ?_
  refine x_iload 6 237 C0 dL_law_235 rfl rfl ?_
  refine x_iconst (v := 3) 238 C0 dL_law_237 rfl (by decide) ?_
  refine x_iadd 239 C0 dL_law_238 rfl ?_
  refine x_st (st1 := [.int (nI (i + 3)), .ref b, .int (xs (nI (i + 2)).toNatClampNeg), .int (xs (nI (i + 1)).toNatClampNeg), .ref (g.2 0 + 258)]) (congrArg (fun z => Value.int z :: _) (nI_add i 3)) ?_
  refine x_sld 240 C0 hX hbl hbA (vp_in_nI (n := i + 3) (by omega) (by omega)) dL_law_239 rfl ?_
  refine x_callV 243 C0 (k_X8_bring l hl g w1 sz1 n tm v bf sv pa lb sg td sm hM1 hJ ((xs (nI (i + 1)).toNatClampNeg)) ((xs (nI (i + 2)).toNatClampNeg)) ((xs (nI (i + 3)).toNatClampNeg))) dL_law_240 rfl mC_X8_bring mM_L_129 mI_X8_bring mV_X8_bring mN_X8 yd_X8_bring rfl rfl ⟨(Nat.le_of_ble_eq_true rfl), (Nat.le_of_ble_eq_true rfl)⟩ hM1.o rfl rfl rfl rfl (Nat.le_of_ble_eq_true rfl) ⟨by show k + 8 + 0 ≤ 600006; omega, by show q + 64 + 0 ≤ 7302056; omega⟩ (fun _ _ _ z => False.elim z) (fun r2 w2 sz2 _ hP2 => ?_)
  obtain ⟨rfl, tm2, v2, bf2, pa2, lb2, rfl, hJ2, h72, hQ2⟩ := hP2
  obtain ⟨z2, rfl⟩ := cP_r hQ2
  have hall2 : AI g (MW g w1 tm2 v2 bf2 sv pa2 lb2 sg td sm) sz1 n (B + 1) ∧ tm2 0 = k1 ∧ (k1 = 0 → ∃ f, wOf g w1 f ∧ f 0 = Int32.toInt64 z2) := by
    rcases hd1 with ⟨hk9, v9, f9, hL9, ho9, hf9⟩ | ⟨-, E9, hX9, hk9⟩
    · obtain ⟨hr9, hz9, c9, LN9, LF9, hc9, hT9, hA9⟩ := al_bring_y ((xs (nI (i + 1)).toNatClampNeg)) ((xs (nI (i + 2)).toNatClampNeg)) ((xs (nI (i + 3)).toNatClampNeg)) hA hT1 hC.k0 (by omega) h72 hQ2 hL9
      exact ⟨⟨_, _, _, _, _, _, _, _, _, _, _, _, _, _, _, _, _, Nat.le_trans hc9 (by omega), hC1.mw, hT9.mw, MR_MW, hJ2, hA9, ri_bring hRI hQ2, fun h => absurd h (Nat.succ_ne_zero _)⟩, hz9.trans hk9.symm, fun _ => ⟨f9, ho9, hf9.trans (congrArg Int32.toInt64 (Value.int.inj (Option.some.inj hr9)))⟩⟩
    · obtain ⟨hz9, c9, LN9, LF9, hc9, hT9, hA9⟩ := al_bring_n ((xs (nI (i + 1)).toNatClampNeg)) ((xs (nI (i + 2)).toNatClampNeg)) ((xs (nI (i + 3)).toNatClampNeg)) hA hT1 hC.k0 (by omega) h72 hQ2 hX9
      exact ⟨⟨_, _, _, _, _, _, _, _, _, _, _, _, _, _, _, _, _, Nat.le_trans hc9 (by omega), hC1.mw, hT9.mw, MR_MW, hJ2, hA9, ri_bring hRI hQ2, fun h => absurd h (Nat.succ_ne_zero _)⟩, hz9.trans hk9.symm, fun z => absurd (hk9.symm.trans z) (kc_bring hX9)⟩
  refine x_st (st1 := [.int z2]) rfl ?_
  refine x_istore [(7, .int z2), (6, .int k1), (0, .ref b), (1, .ref (g.2 0)), (2, .ref (g.2 0 + 258)), (3, .ref (g.2 0 + 267)), (4, .ref (g.2 0 + 268)), (5, .int (nI i))] 245 C0 dL_law_243 rfl (by decide) rfl ?_
  refine x_aload_n 4 246 C0 dL_law_245 rfl rfl rfl ?_
  refine x_callV 249 C0 (k_X8_thrown l hl g (MW g w1 tm2 v2 bf2 sv pa2 lb2 sg td sm) sz1 n tm2 v2 bf2 sv pa2 lb2 sg td sm MR_MW hJ2) dL_law_246 rfl mC_X8_thrown mM_L_130 mI_X8_thrown mV_X8_thrown mN_X8 yd_X8_thrown rfl rfl ⟨(Nat.le_of_ble_eq_true rfl), (Nat.le_of_ble_eq_true rfl)⟩ MR_MW.o rfl rfl rfl rfl (Nat.le_of_ble_eq_true rfl) ⟨by show k + 8 + 0 + 0 ≤ 600006; omega, by show q + 64 + 0 + 0 ≤ 7302056; omega⟩ (fun _ _ _ z => False.elim z) (fun r3 w3 sz3 _ hP3 => ?_)
  obtain ⟨rfl, rfl, rfl⟩ := hP3
  refine x_st (st1 := [.int (tm2 0)]) rfl ?_
  refine x_iload 1 251 C0 dL_law_249 rfl rfl ?_
  refine x_icmp_eq 256 254 C0 dL_law_251 rfl (by decide) (fun _ => ?_) (fun z => absurd hall2.2.1 z)
  refine x_iload 1 258 C0 dL_law_256 rfl rfl ?_
  refine x_if_ne 273 261 C0 dL_law_258 rfl (by decide) (fun _ => ?_) (fun hk0 => ?_)
  · skip
    refine x_goto 2017 C0 dL_law_273 (by decide) ?_
    exact x_widen (k + 256) (q + 2500) (by omega) (by omega) (x_lv [2, 3, 4, 5, 6, 7] rfl (kk _ _ _ ⟨hall2.1, hO1.mw, hD1.mw⟩))
  · obtain ⟨f9, hf9, hf90⟩ := hall2.2.2 hk0
    refine x_aload_n 5 262 C0 dL_law_261 rfl rfl rfl ?_
    refine x_iconst (v := 0) 263 C0 dL_law_262 rfl (by decide) ?_
    refine x_lald 3 264 C0 dL_law_263 rfl ((MW_ne (by omega)).trans hf9) rfl (by unfold vp_in; decide) ?_
    refine x_st (st1 := [.long (f9 0)]) rfl ?_
    refine x_iload 0 266 C0 dL_law_264 rfl rfl ?_
    refine x_i2l (v := (z2).toInt64) 267 C0 dL_law_266 rfl rfl ?_
    refine x_lcmpE 268 C0 dL_law_267 rfl hf90 ?_
    refine x_if_eq 273 271 C0 dL_law_268 rfl (by decide) (fun _ => ?_) (fun z => absurd rfl z)
    refine x_goto 2017 C0 dL_law_273 (by decide) ?_
    exact x_widen (k + 256) (q + 2500) (by omega) (by omega) (x_lv [2, 3, 4, 5, 6, 7] rfl (kk _ _ _ ⟨hall2.1, hO1.mw, hD1.mw⟩))
set_option maxHeartbeats 4000000 in
set_option maxRecDepth 100000 in
theorem law_c1 (hl : l.stackTraces = false) (C0 : xC p l s m args meth cD g cL_law 9 RL rt tb) (hX : va_X b L xs s s.heap) (hbl : b < s.heap.size) (hbA : ¬ xA g b) (hL : L ≤ 5) (i n k q B : Nat) (hi : i + 5 ≤ L) (hB : B ≤ 512) (hB0 : B = 0) (w : xw_T) (sz : Nat) (hI : LA g w sz n B) (hk : k + 256 ≤ 600006) (hq : q + 2500 ≤ 7302056) (kk : ∀ (w1 : xw_T) (sz1 n1 : Nat), LA g w1 sz1 n1 (B + 1) → xV p l e room_1 s m args below meth cD Q g 9 w1 sz1 (k + 256) (q + 2500) 2017 [(0, .ref b), (1, .ref (g.2 0)), (2, .ref (g.2 0 + 258)), (3, .ref (g.2 0 + 267)), (4, .ref (g.2 0 + 268)), (5, .int (nI i))] []) : xV p l e room_1 s m args below meth cD Q g 9 w sz k q 276 [(0, .ref b), (1, .ref (g.2 0)), (2, .ref (g.2 0 + 258)), (3, .ref (g.2 0 + 267)), (4, .ref (g.2 0 + 268)), (5, .int (nI i))] [] := by
  obtain ⟨⟨x, la, t, tt, vb, sg, LN, LF, tm, v, bf, sv, pa, lb, td, sm, c0, hc0, hC, hT, hM, hJ, hA, hRI, hRR⟩, hO, hD⟩ := hI
  refine x_aload_n 1 277 C0 dL_law_276 rfl rfl rfl ?_
  refine x_aload_n 0 278 C0 dL_law_277 rfl rfl rfl ?_
  refine x_iload 5 280 C0 dL_law_278 rfl rfl ?_
  refine x_iconst (v := 1) 281 C0 dL_law_280 rfl (by decide) ?_
  refine x_iadd 282 C0 dL_law_281 rfl ?_
  refine x_st (st1 := [.int (nI (i + 1)), .ref b, .ref (g.2 0)]) (congrArg (fun z => Value.int z :: _) (nI_add i 1)) ?_
  refine x_sld 283 C0 hX hbl hbA (vp_in_nI (n := i + 1) (by omega) (by omega)) dL_law_282 rfl ?_
  refine x_aload_n 0 284 C0 dL_law_283 rfl rfl rfl ?_
  refine x_iload 5 286 C0 dL_law_284 rfl rfl ?_
  refine x_iconst (v := 2) 287 C0 dL_law_286 rfl (by decide) ?_
  refine x_iadd 288 C0 dL_law_287 rfl ?_
  refine x_st (st1 := [.int (nI (i + 2)), .ref b, .int (xs (nI (i + 1)).toNatClampNeg), .ref (g.2 0)]) (congrArg (fun z => Value.int z :: _) (nI_add i 2)) ?_
  refine x_sld 289 C0 hX hbl hbA (vp_in_nI (n := i + 2) (by omega) (by omega)) dL_law_288 rfl ?_
  refine x_aload_n 3 290 C0 dL_law_289 rfl rfl rfl ?_
  refine x_callSH 293 C0 (e_L_leaves l hl g w sz n x la t tt vb sg hC hO ((xs (nI (i + 1)).toNatClampNeg)) ((xs (nI (i + 2)).toNatClampNeg))) dL_law_290 rfl mC_L_leaves mM_L_133 mS_L_leaves mN_L yd_L_leaves rfl rfl ⟨(Nat.le_of_ble_eq_true rfl), (Nat.le_of_ble_eq_true rfl)⟩ rfl rfl (Nat.le_of_ble_eq_true rfl) ⟨by show k + 8 ≤ 600006; omega, by show q + 64 ≤ 7302056; omega⟩ (fun _ _ _ z => False.elim z) (fun r1 w1 sz1 _ hP1 => ?_)
  obtain ⟨k1, x1, la1, t1, rfl, hz1, hF1, hC1, hd1⟩ := hP1
  have hO1 : wO g w1 := by
    rcases hd1 with ⟨-, v9, f9, -, h9, -⟩ | ⟨h9, -⟩
    · exact ⟨f9, h9⟩
    · exact h9
  have hM1 := hM.wf hF1 (Or.inl rfl) hC.zz
  have hT1 := hT.wf hF1 (Or.inl rfl) hz1
  have hD1 := hD.wf hF1 hC.zz
  refine x_st (st1 := [.int k1]) rfl ?_
  refine x_istore [(6, .int k1), (0, .ref b), (1, .ref (g.2 0)), (2, .ref (g.2 0 + 258)), (3, .ref (g.2 0 + 267)), (4, .ref (g.2 0 + 268)), (5, .int (nI i))] 295 C0 dL_law_293 rfl (by decide) rfl ?_
  refine x_aload_n 3 296 C0 dL_law_295 rfl rfl rfl ?_
  refine x_aload_n 1 297 C0 dL_law_296 rfl rfl rfl ?_
  refine x_iload 6 299 C0 dL_law_297 rfl rfl ?_
  refine x_iconst (v := 1) 300 C0 dL_law_299 rfl (by decide) ?_
  refine x_iadd 301 C0 dL_law_300 rfl ?_
  refine x_st (st1 := [.int (nI (i + 1)), .ref b, .ref (g.2 0 + 258)]) (congrArg (fun z => Value.int z :: _) (nI_add i 1)) ?_
  refine x_sld 302 C0 hX hbl hbA (vp_in_nI (n := i + 1) (by omega) (by omega)) dL_law_301 rfl ?_
  refine x_aload_n 1 303 C0 dL_law_302 rfl rfl rfl ?_
  refine x_iload 6 305 C0 dL_law_303 rfl rfl ?_
  refine x_iconst (v := 2) 306 C0 dL_law_305 rfl (by decide) ?_
  refine x_iadd 307 C0 dL_law_306 rfl ?_
  refine x_st (st1 := [.int (nI (i + 2)), .ref b, .int (xs (nI (i + 1)).toNatClampNeg), .ref (g.2 0 + 258)]) (congrArg (fun z => Value.int z :: _) (nI_add i 2)) ?_
  refine x_sld 308 C0 hX hbl hbA (vp_in_nI (n := i + 2) (by omega) (by omega)) dL_law_307 rfl ?_
  refine x_callV 311 C0 (k_X8_leaves l hl g w1 sz1 n tm v bf sv pa lb sg td sm hM1 hJ ((xs (nI (i + 1)).toNatClampNeg)) ((xs (nI (i + 2)).toNatClampNeg))) dL_law_308 rfl mC_X8_leaves mM_L_136 mI_X8_leaves mV_X8_leaves mN_X8 yd_X8_leaves rfl rfl ⟨(Nat.le_of_ble_eq_true rfl), (Nat.le_of_ble_eq_true rfl)⟩ hM1.o rfl rfl rfl rfl (Nat.le_of_ble_eq_true rfl) ⟨by show k + 8 + 0 ≤ 600006; omega, by show q + 64 + 0 ≤ 7302056; omega⟩ (fun _ _ _ z => False.elim z) (fun r2 w2 sz2 _ hP2 => ?_)
  obtain ⟨rfl, tm2, lb2, rfl, hJ2, hL2, hQ2⟩ := hP2
  obtain ⟨⟨z2, rfl⟩, hQ2⟩ := hQ2
  have hall2 : AI g (MW g w1 tm2 v bf sv pa lb2 sg td sm) sz1 n (B + 1) ∧ tm2 0 = k1 ∧ (k1 = 0 → ∃ f, wOf g w1 f ∧ f 0 = Int32.toInt64 z2) := by
    rcases hd1 with ⟨hk9, v9, f9, hL9, ho9, hf9⟩ | ⟨-, E9, hX9, hk9⟩
    · obtain ⟨hr9, hz9⟩ := rd_leaves_y ((xs (nI (i + 1)).toNatClampNeg)) ((xs (nI (i + 2)).toNatClampNeg)) hA.1 hC.k0 hQ2 hL9
      obtain ⟨rfl, rfl, rfl⟩ := st_leaves hL9
      exact ⟨⟨_, _, _, _, _, _, _, _, _, _, _, _, _, _, _, _, _, Nat.le_succ_of_le hc0, hC1.mw, hT1.mw, MR_MW, hJ2, (hA.tm (hL2 2 (by decide)) (hL2 7 (by decide))), hRI.tm (hL2 2 (by decide)) (by omega), fun h => absurd h (Nat.succ_ne_zero _)⟩, hz9.trans hk9.symm, fun _ => ⟨f9, ho9, hf9.trans (congrArg Int32.toInt64 (Value.int.inj (Option.some.inj hr9)))⟩⟩
    · have hz9 := rd_leaves_n ((xs (nI (i + 1)).toNatClampNeg)) ((xs (nI (i + 2)).toNatClampNeg)) hA.1 hC.k0 hQ2 hX9
      have hk8 := kc_leaves hX9
      obtain ⟨rfl, rfl, rfl⟩ := sx_leaves hX9
      exact ⟨⟨_, _, _, _, _, _, _, _, _, _, _, _, _, _, _, _, _, Nat.le_succ_of_le hc0, hC1.mw, hT1.mw, MR_MW, hJ2, (hA.tm (hL2 2 (by decide)) (hL2 7 (by decide))), hRI.tm (hL2 2 (by decide)) (by omega), fun h => absurd h (Nat.succ_ne_zero _)⟩, hz9.trans hk9.symm, fun z => absurd (hk9.symm.trans z) hk8⟩
  refine x_st (st1 := [.int z2]) rfl ?_
  refine x_istore [(7, .int z2), (6, .int k1), (0, .ref b), (1, .ref (g.2 0)), (2, .ref (g.2 0 + 258)), (3, .ref (g.2 0 + 267)), (4, .ref (g.2 0 + 268)), (5, .int (nI i))] 313 C0 dL_law_311 rfl (by decide) rfl ?_
  refine x_aload_n 4 314 C0 dL_law_313 rfl rfl rfl ?_
  refine x_callV 317 C0 (k_X8_thrown l hl g (MW g w1 tm2 v bf sv pa lb2 sg td sm) sz1 n tm2 v bf sv pa lb2 sg td sm MR_MW hJ2) dL_law_314 rfl mC_X8_thrown mM_L_130 mI_X8_thrown mV_X8_thrown mN_X8 yd_X8_thrown rfl rfl ⟨(Nat.le_of_ble_eq_true rfl), (Nat.le_of_ble_eq_true rfl)⟩ MR_MW.o rfl rfl rfl rfl (Nat.le_of_ble_eq_true rfl) ⟨by show k + 8 + 0 + 0 ≤ 600006; omega, by show q + 64 + 0 + 0 ≤ 7302056; omega⟩ (fun _ _ _ z => False.elim z) (fun r3 w3 sz3 _ hP3 => ?_)
  obtain ⟨rfl, rfl, rfl⟩ := hP3
  refine x_st (st1 := [.int (tm2 0)]) rfl ?_
  refine x_iload 1 319 C0 dL_law_317 rfl rfl ?_
  refine x_icmp_eq 324 322 C0 dL_law_319 rfl (by decide) (fun _ => ?_) (fun z => absurd hall2.2.1 z)
  refine x_iload 1 326 C0 dL_law_324 rfl rfl ?_
  refine x_if_ne 341 329 C0 dL_law_326 rfl (by decide) (fun _ => ?_) (fun hk0 => ?_)
  · skip
    refine x_goto 2017 C0 dL_law_341 (by decide) ?_
    exact x_widen (k + 256) (q + 2500) (by omega) (by omega) (x_lv [2, 3, 4, 5, 6, 7] rfl (kk _ _ _ ⟨hall2.1, hO1.mw, hD1.mw⟩))
  · obtain ⟨f9, hf9, hf90⟩ := hall2.2.2 hk0
    refine x_aload_n 5 330 C0 dL_law_329 rfl rfl rfl ?_
    refine x_iconst (v := 0) 331 C0 dL_law_330 rfl (by decide) ?_
    refine x_lald 3 332 C0 dL_law_331 rfl ((MW_ne (by omega)).trans hf9) rfl (by unfold vp_in; decide) ?_
    refine x_st (st1 := [.long (f9 0)]) rfl ?_
    refine x_iload 0 334 C0 dL_law_332 rfl rfl ?_
    refine x_i2l (v := (z2).toInt64) 335 C0 dL_law_334 rfl rfl ?_
    refine x_lcmpE 336 C0 dL_law_335 rfl hf90 ?_
    refine x_if_eq 341 339 C0 dL_law_336 rfl (by decide) (fun _ => ?_) (fun z => absurd rfl z)
    refine x_goto 2017 C0 dL_law_341 (by decide) ?_
    exact x_widen (k + 256) (q + 2500) (by omega) (by omega) (x_lv [2, 3, 4, 5, 6, 7] rfl (kk _ _ _ ⟨hall2.1, hO1.mw, hD1.mw⟩))
set_option maxHeartbeats 4000000 in
set_option maxRecDepth 100000 in
theorem law_c2 (hl : l.stackTraces = false) (C0 : xC p l s m args meth cD g cL_law 9 RL rt tb) (hX : va_X b L xs s s.heap) (hbl : b < s.heap.size) (hbA : ¬ xA g b) (hL : L ≤ 5) (i n k q B : Nat) (hi : i + 5 ≤ L) (hB : B ≤ 512) (hB0 : B = 0) (w : xw_T) (sz : Nat) (hI : LA g w sz n B) (hk : k + 256 ≤ 600006) (hq : q + 2500 ≤ 7302056) (kk : ∀ (w1 : xw_T) (sz1 n1 : Nat), LA g w1 sz1 n1 (B + 1) → xV p l e room_1 s m args below meth cD Q g 9 w1 sz1 (k + 256) (q + 2500) 2017 [(0, .ref b), (1, .ref (g.2 0)), (2, .ref (g.2 0 + 258)), (3, .ref (g.2 0 + 267)), (4, .ref (g.2 0 + 268)), (5, .int (nI i))] []) : xV p l e room_1 s m args below meth cD Q g 9 w sz k q 344 [(0, .ref b), (1, .ref (g.2 0)), (2, .ref (g.2 0 + 258)), (3, .ref (g.2 0 + 267)), (4, .ref (g.2 0 + 268)), (5, .int (nI i))] [] := by
  obtain ⟨⟨x, la, t, tt, vb, sg, LN, LF, tm, v, bf, sv, pa, lb, td, sm, c0, hc0, hC, hT, hM, hJ, hA, hRI, hRR⟩, hO, hD⟩ := hI
  refine x_aload_n 1 345 C0 dL_law_344 rfl rfl rfl ?_
  refine x_callV 348 C0 (f9_X7_bestGarden l hl g w sz n x la t tt vb sg hC) dL_law_345 rfl mC_X7_bestGarden mM_L_137 mI_X7_bestGarden mV_X7_bestGarden mN_X7 yd_X7_bestGarden rfl rfl ⟨(Nat.le_of_ble_eq_true rfl), (Nat.le_of_ble_eq_true rfl)⟩ hC.1.1 rfl rfl rfl rfl (Nat.le_of_ble_eq_true rfl) ⟨by show k + 8 ≤ 600006; omega, by show q + 64 ≤ 7302056; omega⟩ (fun _ _ _ z => False.elim z) (fun r1 w1 sz1 _ hP1 => ?_)
  obtain ⟨hR1, hC1, hF1, hz1⟩ := hP1
  obtain ⟨k1, rfl⟩ := rI7_bestGarden hR1
  have hM1 := hM.wf (hF1.wf (a := 267)) (Or.inl rfl) hC.zz
  have hT1 := hT.wf (hF1.wf (a := 267)) (Or.inl rfl) hz1
  have hO1 := hO.xf hF1 hC.zz
  have hD1 := hD.wf hF1.wf hC.zz
  refine x_st (st1 := [.int k1]) rfl ?_
  refine x_aload_n 2 349 C0 dL_law_348 rfl rfl rfl ?_
  refine x_callV 352 C0 (e_X8_bestGarden l hl g w1 sz1 n tm v bf sv pa lb sg td sm hM1 hJ) dL_law_349 rfl mC_X8_bestGarden mM_L_140 mI_X8_bestGarden mV_X8_bestGarden mN_X8 yd_X8_bestGarden rfl rfl ⟨(Nat.le_of_ble_eq_true rfl), (Nat.le_of_ble_eq_true rfl)⟩ hM1.o rfl rfl rfl rfl (Nat.le_of_ble_eq_true rfl) ⟨by show k + 8 + 0 ≤ 600006; omega, by show q + 64 + 0 ≤ 7302056; omega⟩ (fun _ _ _ z => False.elim z) (fun r2 w2 sz2 _ hP2 => ?_)
  obtain ⟨rfl, tm2, lb2, rfl, hJ2, hL2, hQ2⟩ := hP2
  obtain ⟨z2, rfl⟩ := rI8_bestGarden hQ2
  have heq2 := Value.int.inj (Option.some.inj (rd_bestGarden hA.1 hRI hQ2 hR1))
  have hall2 : AI g (MW g w1 tm2 v bf sv pa lb2 sg td sm) sz1 n (B + 1) := ⟨_, _, _, _, _, _, _, _, _, _, _, _, _, _, _, _, _, Nat.le_succ_of_le hc0, hC1.mw, hT1.mw, MR_MW, hJ2, (hA.tm (hL2 2 (by decide)) (hL2 7 (by decide))), hRI.tm (hL2 2 (by decide)) (by omega), fun h => absurd h (Nat.succ_ne_zero _)⟩
  refine x_st (st1 := [.int z2, .int k1]) rfl ?_
  refine x_icmp_eq 2017 355 C0 dL_law_352 rfl (by decide) (fun _ => ?_) (fun z => absurd heq2 z)
  exact x_widen (k + 256) (q + 2500) (by omega) (by omega) (x_lv [0, 1, 2, 3, 4, 5] rfl (kk _ _ _ ⟨hall2, hO1.mw, hD1.mw⟩))
set_option maxHeartbeats 4000000 in
set_option maxRecDepth 100000 in
theorem law_c3 (hl : l.stackTraces = false) (C0 : xC p l s m args meth cD g cL_law 9 RL rt tb) (hX : va_X b L xs s s.heap) (hbl : b < s.heap.size) (hbA : ¬ xA g b) (hL : L ≤ 5) (i n k q B : Nat) (hi : i + 5 ≤ L) (hB : B ≤ 512) (hB0 : B = 0) (w : xw_T) (sz : Nat) (hI : LA g w sz n B) (hk : k + 256 ≤ 600006) (hq : q + 2500 ≤ 7302056) (kk : ∀ (w1 : xw_T) (sz1 n1 : Nat), LA g w1 sz1 n1 (B + 1) → xV p l e room_1 s m args below meth cD Q g 9 w1 sz1 (k + 256) (q + 2500) 2017 [(0, .ref b), (1, .ref (g.2 0)), (2, .ref (g.2 0 + 258)), (3, .ref (g.2 0 + 267)), (4, .ref (g.2 0 + 268)), (5, .int (nI i))] []) : xV p l e room_1 s m args below meth cD Q g 9 w sz k q 357 [(0, .ref b), (1, .ref (g.2 0)), (2, .ref (g.2 0 + 258)), (3, .ref (g.2 0 + 267)), (4, .ref (g.2 0 + 268)), (5, .int (nI i))] [] := by
  obtain ⟨⟨x, la, t, tt, vb, sg, LN, LF, tm, v, bf, sv, pa, lb, td, sm, c0, hc0, hC, hT, hM, hJ, hA, hRI, hRR⟩, hO, hD⟩ := hI
  refine x_aload_n 1 358 C0 dL_law_357 rfl rfl rfl ?_
  refine x_aload_n 0 359 C0 dL_law_358 rfl rfl rfl ?_
  refine x_iload 5 361 C0 dL_law_359 rfl rfl ?_
  refine x_iconst (v := 1) 362 C0 dL_law_361 rfl (by decide) ?_
  refine x_iadd 363 C0 dL_law_362 rfl ?_
  refine x_st (st1 := [.int (nI (i + 1)), .ref b, .ref (g.2 0)]) (congrArg (fun z => Value.int z :: _) (nI_add i 1)) ?_
  refine x_sld 364 C0 hX hbl hbA (vp_in_nI (n := i + 1) (by omega) (by omega)) dL_law_363 rfl ?_
  refine x_if_eq 371 367 C0 dL_law_364 rfl (by decide) (fun hb1 => ?_) (fun hb1 => ?_)
  · refine x_iconst (v := 0) 372 C0 dL_law_371 rfl (by decide) ?_
    refine x_aload_n 0 373 C0 dL_law_372 rfl rfl rfl ?_
    refine x_iload 5 375 C0 dL_law_373 rfl rfl ?_
    refine x_iconst (v := 2) 376 C0 dL_law_375 rfl (by decide) ?_
    refine x_iadd 377 C0 dL_law_376 rfl ?_
    refine x_st (st1 := [.int (nI (i + 2)), .ref b, .int 0, .ref (g.2 0)]) (congrArg (fun z => Value.int z :: _) (nI_add i 2)) ?_
    refine x_sld 378 C0 hX hbl hbA (vp_in_nI (n := i + 2) (by omega) (by omega)) dL_law_377 rfl ?_
    refine x_aload_n 3 379 C0 dL_law_378 rfl rfl rfl ?_
    refine x_callSH 382 C0 (e_L_buy l hl g w sz n x la t tt vb sg hC hO (0) ((xs (nI (i + 2)).toNatClampNeg))) dL_law_379 rfl mC_L_buy mM_L_141 mS_L_buy mN_L yd_L_buy rfl rfl ⟨(Nat.le_of_ble_eq_true rfl), (Nat.le_of_ble_eq_true rfl)⟩ rfl rfl (Nat.le_of_ble_eq_true rfl) ⟨by show k + 8 ≤ 600006; omega, by show q + 64 ≤ 7302056; omega⟩ (fun _ _ _ z => False.elim z) (fun r2 w2 sz2 _ hP2 => ?_)
    obtain ⟨k2, x2, la2, t2, rfl, hz2, hF2, hC2, hd2⟩ := hP2
    have hO2 : wO g w2 := by
      rcases hd2 with ⟨-, v9, f9, -, h9, -⟩ | ⟨h9, -⟩
      · exact ⟨f9, h9⟩
      · exact h9
    have hM2 := hM.wf hF2 (Or.inl rfl) hC.zz
    have hT2 := hT.wf hF2 (Or.inl rfl) hz2
    have hD2 := hD.wf hF2 hC.zz
    refine x_st (st1 := [.int k2]) rfl ?_
    refine x_istore [(6, .int k2), (0, .ref b), (1, .ref (g.2 0)), (2, .ref (g.2 0 + 258)), (3, .ref (g.2 0 + 267)), (4, .ref (g.2 0 + 268)), (5, .int (nI i))] 384 C0 dL_law_382 rfl (by decide) rfl ?_
    refine x_aload_n 3 385 C0 dL_law_384 rfl rfl rfl ?_
    refine x_aload_n 1 386 C0 dL_law_385 rfl rfl rfl ?_
    refine x_iload 6 388 C0 dL_law_386 rfl rfl ?_
    refine x_iconst (v := 1) 389 C0 dL_law_388 rfl (by decide) ?_
    refine x_iadd 390 C0 dL_law_389 rfl ?_
    refine x_st (st1 := [.int (nI (i + 1)), .ref b, .ref (g.2 0 + 258)]) (congrArg (fun z => Value.int z :: _) (nI_add i 1)) ?_
    refine x_sld 391 C0 hX hbl hbA (vp_in_nI (n := i + 1) (by omega) (by omega)) dL_law_390 rfl ?_
    refine x_if_eq 398 394 C0 dL_law_391 rfl (by decide) (fun _ => ?_) (fun z => absurd hb1 z)
    refine x_iconst (v := 0) 399 C0 dL_law_398 rfl (by decide) ?_
    refine x_aload_n 1 400 C0 dL_law_399 rfl rfl rfl ?_
    refine x_iload 6 402 C0 dL_law_400 rfl rfl ?_
    refine x_iconst (v := 2) 403 C0 dL_law_402 rfl (by decide) ?_
    refine x_iadd 404 C0 dL_law_403 rfl ?_
    refine x_st (st1 := [.int (nI (i + 2)), .ref b, .int 0, .ref (g.2 0 + 258)]) (congrArg (fun z => Value.int z :: _) (nI_add i 2)) ?_
    refine x_sld 405 C0 hX hbl hbA (vp_in_nI (n := i + 2) (by omega) (by omega)) dL_law_404 rfl ?_
    refine x_callV 408 C0 (k_X8_buy l hl g w2 sz2 n tm v bf sv pa lb sg td sm hM2 hJ (0) ((xs (nI (i + 2)).toNatClampNeg))) dL_law_405 rfl mC_X8_buy mM_L_144 mI_X8_buy mV_X8_buy mN_X8 yd_X8_buy rfl rfl ⟨(Nat.le_of_ble_eq_true rfl), (Nat.le_of_ble_eq_true rfl)⟩ hM2.o rfl rfl rfl rfl (Nat.le_of_ble_eq_true rfl) ⟨by show k + 8 + 0 ≤ 600006; omega, by show q + 64 + 0 ≤ 7302056; omega⟩ (fun _ _ _ z => False.elim z) (fun r3 w3 sz3 _ hP3 => ?_)
    obtain ⟨rfl, tm3, v3, bf3, pa3, lb3, rfl, hJ3, h73, hQ3⟩ := hP3
    obtain ⟨z3, rfl⟩ : ∃ z : Int32, r3 = some (.int z) := hQ3.elim (fun z => cP_r z.2) (fun z => cP_r z.2)
    have hall3 : AI g (MW g w2 tm3 v3 bf3 sv pa3 lb3 sg td sm) sz2 n (B + 1) ∧ tm3 0 = k2 ∧ (k2 = 0 → ∃ f, wOf g w2 f ∧ f 0 = Int32.toInt64 z3) := by
      rcases hd2 with ⟨hk9, v9, f9, hL9, ho9, hf9⟩ | ⟨-, E9, hX9, hk9⟩
      · obtain ⟨hr9, hz9, c9, LN9, LF9, hc9, hT9, hA9⟩ := al_buy_y (0) ((xs (nI (i + 2)).toNatClampNeg)) hA hT2 (by omega) h73 hQ3 hL9
        exact ⟨⟨_, _, _, _, _, _, _, _, _, _, _, _, _, _, _, _, _, Nat.le_trans hc9 (by omega), hC2.mw, hT9.mw, MR_MW, hJ3, hA9, ri_buy hRI hQ3, fun h => absurd h (Nat.succ_ne_zero _)⟩, hz9.trans hk9.symm, fun _ => ⟨f9, ho9, hf9.trans (congrArg Int32.toInt64 (Value.int.inj (Option.some.inj hr9)))⟩⟩
      · obtain ⟨hz9, c9, LN9, LF9, hc9, hT9, hA9⟩ := al_buy_n (0) ((xs (nI (i + 2)).toNatClampNeg)) hA hT2 h73 hQ3 hX9
        exact ⟨⟨_, _, _, _, _, _, _, _, _, _, _, _, _, _, _, _, _, Nat.le_trans hc9 (by omega), hC2.mw, hT9.mw, MR_MW, hJ3, hA9, ri_buy hRI hQ3, fun h => absurd h (Nat.succ_ne_zero _)⟩, hz9.trans hk9.symm, fun z => absurd (hk9.symm.trans z) (kc_buy hX9)⟩
    refine x_st (st1 := [.int z3]) rfl ?_
    refine x_istore [(7, .int z3), (6, .int k2), (0, .ref b), (1, .ref (g.2 0)), (2, .ref (g.2 0 + 258)), (3, .ref (g.2 0 + 267)), (4, .ref (g.2 0 + 268)), (5, .int (nI i))] 410 C0 dL_law_408 rfl (by decide) rfl ?_
    refine x_aload_n 4 411 C0 dL_law_410 rfl rfl rfl ?_
    refine x_callV 414 C0 (k_X8_thrown l hl g (MW g w2 tm3 v3 bf3 sv pa3 lb3 sg td sm) sz2 n tm3 v3 bf3 sv pa3 lb3 sg td sm MR_MW hJ3) dL_law_411 rfl mC_X8_thrown mM_L_130 mI_X8_thrown mV_X8_thrown mN_X8 yd_X8_thrown rfl rfl ⟨(Nat.le_of_ble_eq_true rfl), (Nat.le_of_ble_eq_true rfl)⟩ MR_MW.o rfl rfl rfl rfl (Nat.le_of_ble_eq_true rfl) ⟨by show k + 8 + 0 + 0 ≤ 600006; omega, by show q + 64 + 0 + 0 ≤ 7302056; omega⟩ (fun _ _ _ z => False.elim z) (fun r4 w4 sz4 _ hP4 => ?_)
    obtain ⟨rfl, rfl, rfl⟩ := hP4
    refine x_st (st1 := [.int (tm3 0)]) rfl ?_
    refine x_iload 1 416 C0 dL_law_414 rfl rfl ?_
    refine x_icmp_eq 421 419 C0 dL_law_416 rfl (by decide) (fun _ => ?_) (fun z => absurd hall3.2.1 z)
    refine x_iload 1 423 C0 dL_law_421 rfl rfl ?_
    refine x_if_ne 438 426 C0 dL_law_423 rfl (by decide) (fun _ => ?_) (fun hk0 => ?_)
    · skip
      refine x_goto 2017 C0 dL_law_438 (by decide) ?_
      exact x_widen (k + 256) (q + 2500) (by omega) (by omega) (x_lv [2, 3, 4, 5, 6, 7] rfl (kk _ _ _ ⟨hall3.1, hO2.mw, hD2.mw⟩))
    · obtain ⟨f9, hf9, hf90⟩ := hall3.2.2 hk0
      refine x_aload_n 5 427 C0 dL_law_426 rfl rfl rfl ?_
      refine x_iconst (v := 0) 428 C0 dL_law_427 rfl (by decide) ?_
      refine x_lald 3 429 C0 dL_law_428 rfl ((MW_ne (by omega)).trans hf9) rfl (by unfold vp_in; decide) ?_
      refine x_st (st1 := [.long (f9 0)]) rfl ?_
      refine x_iload 0 431 C0 dL_law_429 rfl rfl ?_
      refine x_i2l (v := (z3).toInt64) 432 C0 dL_law_431 rfl rfl ?_
      refine x_lcmpE 433 C0 dL_law_432 rfl hf90 ?_
      refine x_if_eq 438 436 C0 dL_law_433 rfl (by decide) (fun _ => ?_) (fun z => absurd rfl z)
      refine x_goto 2017 C0 dL_law_438 (by decide) ?_
      exact x_widen (k + 256) (q + 2500) (by omega) (by omega) (x_lv [2, 3, 4, 5, 6, 7] rfl (kk _ _ _ ⟨hall3.1, hO2.mw, hD2.mw⟩))
  · refine x_iconst (v := 1) 368 C0 dL_law_367 rfl (by decide) ?_
    refine x_goto 372 C0 dL_law_368 (by decide) ?_
    refine x_aload_n 0 373 C0 dL_law_372 rfl rfl rfl ?_
    refine x_iload 5 375 C0 dL_law_373 rfl rfl ?_
    refine x_iconst (v := 2) 376 C0 dL_law_375 rfl (by decide) ?_
    refine x_iadd 377 C0 dL_law_376 rfl ?_
    refine x_st (st1 := [.int (nI (i + 2)), .ref b, .int 1, .ref (g.2 0)]) (congrArg (fun z => Value.int z :: _) (nI_add i 2)) ?_
    refine x_sld 378 C0 hX hbl hbA (vp_in_nI (n := i + 2) (by omega) (by omega)) dL_law_377 rfl ?_
    refine x_aload_n 3 379 C0 dL_law_378 rfl rfl rfl ?_
    refine x_callSH 382 C0 (e_L_buy l hl g w sz n x la t tt vb sg hC hO (1) ((xs (nI (i + 2)).toNatClampNeg))) dL_law_379 rfl mC_L_buy mM_L_141 mS_L_buy mN_L yd_L_buy rfl rfl ⟨(Nat.le_of_ble_eq_true rfl), (Nat.le_of_ble_eq_true rfl)⟩ rfl rfl (Nat.le_of_ble_eq_true rfl) ⟨by show k + 8 ≤ 600006; omega, by show q + 64 ≤ 7302056; omega⟩ (fun _ _ _ z => False.elim z) (fun r5 w5 sz5 _ hP5 => ?_)
    obtain ⟨k5, x5, la5, t5, rfl, hz5, hF5, hC5, hd5⟩ := hP5
    have hO5 : wO g w5 := by
      rcases hd5 with ⟨-, v9, f9, -, h9, -⟩ | ⟨h9, -⟩
      · exact ⟨f9, h9⟩
      · exact h9
    have hM5 := hM.wf hF5 (Or.inl rfl) hC.zz
    have hT5 := hT.wf hF5 (Or.inl rfl) hz5
    have hD5 := hD.wf hF5 hC.zz
    refine x_st (st1 := [.int k5]) rfl ?_
    refine x_istore [(6, .int k5), (0, .ref b), (1, .ref (g.2 0)), (2, .ref (g.2 0 + 258)), (3, .ref (g.2 0 + 267)), (4, .ref (g.2 0 + 268)), (5, .int (nI i))] 384 C0 dL_law_382 rfl (by decide) rfl ?_
    refine x_aload_n 3 385 C0 dL_law_384 rfl rfl rfl ?_
    refine x_aload_n 1 386 C0 dL_law_385 rfl rfl rfl ?_
    refine x_iload 6 388 C0 dL_law_386 rfl rfl ?_
    refine x_iconst (v := 1) 389 C0 dL_law_388 rfl (by decide) ?_
    refine x_iadd 390 C0 dL_law_389 rfl ?_
    refine x_st (st1 := [.int (nI (i + 1)), .ref b, .ref (g.2 0 + 258)]) (congrArg (fun z => Value.int z :: _) (nI_add i 1)) ?_
    refine x_sld 391 C0 hX hbl hbA (vp_in_nI (n := i + 1) (by omega) (by omega)) dL_law_390 rfl ?_
    refine x_if_eq 398 394 C0 dL_law_391 rfl (by decide) (fun z => absurd z hb1) (fun _ => ?_)
    refine x_iconst (v := 1) 395 C0 dL_law_394 rfl (by decide) ?_
    refine x_goto 399 C0 dL_law_395 (by decide) ?_
    refine x_aload_n 1 400 C0 dL_law_399 rfl rfl rfl ?_
    refine x_iload 6 402 C0 dL_law_400 rfl rfl ?_
    refine x_iconst (v := 2) 403 C0 dL_law_402 rfl (by decide) ?_
    refine x_iadd 404 C0 dL_law_403 rfl ?_
    refine x_st (st1 := [.int (nI (i + 2)), .ref b, .int 1, .ref (g.2 0 + 258)]) (congrArg (fun z => Value.int z :: _) (nI_add i 2)) ?_
    refine x_sld 405 C0 hX hbl hbA (vp_in_nI (n := i + 2) (by omega) (by omega)) dL_law_404 rfl ?_
    refine x_callV 408 C0 (k_X8_buy l hl g w5 sz5 n tm v bf sv pa lb sg td sm hM5 hJ (1) ((xs (nI (i + 2)).toNatClampNeg))) dL_law_405 rfl mC_X8_buy mM_L_144 mI_X8_buy mV_X8_buy mN_X8 yd_X8_buy rfl rfl ⟨(Nat.le_of_ble_eq_true rfl), (Nat.le_of_ble_eq_true rfl)⟩ hM5.o rfl rfl rfl rfl (Nat.le_of_ble_eq_true rfl) ⟨by show k + 8 + 0 ≤ 600006; omega, by show q + 64 + 0 ≤ 7302056; omega⟩ (fun _ _ _ z => False.elim z) (fun r6 w6 sz6 _ hP6 => ?_)
    obtain ⟨rfl, tm6, v6, bf6, pa6, lb6, rfl, hJ6, h76, hQ6⟩ := hP6
    obtain ⟨z6, rfl⟩ : ∃ z : Int32, r6 = some (.int z) := hQ6.elim (fun z => cP_r z.2) (fun z => cP_r z.2)
    have hall6 : AI g (MW g w5 tm6 v6 bf6 sv pa6 lb6 sg td sm) sz5 n (B + 1) ∧ tm6 0 = k5 ∧ (k5 = 0 → ∃ f, wOf g w5 f ∧ f 0 = Int32.toInt64 z6) := by
      rcases hd5 with ⟨hk9, v9, f9, hL9, ho9, hf9⟩ | ⟨-, E9, hX9, hk9⟩
      · obtain ⟨hr9, hz9, c9, LN9, LF9, hc9, hT9, hA9⟩ := al_buy_y (1) ((xs (nI (i + 2)).toNatClampNeg)) hA hT5 (by omega) h76 hQ6 hL9
        exact ⟨⟨_, _, _, _, _, _, _, _, _, _, _, _, _, _, _, _, _, Nat.le_trans hc9 (by omega), hC5.mw, hT9.mw, MR_MW, hJ6, hA9, ri_buy hRI hQ6, fun h => absurd h (Nat.succ_ne_zero _)⟩, hz9.trans hk9.symm, fun _ => ⟨f9, ho9, hf9.trans (congrArg Int32.toInt64 (Value.int.inj (Option.some.inj hr9)))⟩⟩
      · obtain ⟨hz9, c9, LN9, LF9, hc9, hT9, hA9⟩ := al_buy_n (1) ((xs (nI (i + 2)).toNatClampNeg)) hA hT5 h76 hQ6 hX9
        exact ⟨⟨_, _, _, _, _, _, _, _, _, _, _, _, _, _, _, _, _, Nat.le_trans hc9 (by omega), hC5.mw, hT9.mw, MR_MW, hJ6, hA9, ri_buy hRI hQ6, fun h => absurd h (Nat.succ_ne_zero _)⟩, hz9.trans hk9.symm, fun z => absurd (hk9.symm.trans z) (kc_buy hX9)⟩
    refine x_st (st1 := [.int z6]) rfl ?_
    refine x_istore [(7, .int z6), (6, .int k5), (0, .ref b), (1, .ref (g.2 0)), (2, .ref (g.2 0 + 258)), (3, .ref (g.2 0 + 267)), (4, .ref (g.2 0 + 268)), (5, .int (nI i))] 410 C0 dL_law_408 rfl (by decide) rfl ?_
    refine x_aload_n 4 411 C0 dL_law_410 rfl rfl rfl ?_
    refine x_callV 414 C0 (k_X8_thrown l hl g (MW g w5 tm6 v6 bf6 sv pa6 lb6 sg td sm) sz5 n tm6 v6 bf6 sv pa6 lb6 sg td sm MR_MW hJ6) dL_law_411 rfl mC_X8_thrown mM_L_130 mI_X8_thrown mV_X8_thrown mN_X8 yd_X8_thrown rfl rfl ⟨(Nat.le_of_ble_eq_true rfl), (Nat.le_of_ble_eq_true rfl)⟩ MR_MW.o rfl rfl rfl rfl (Nat.le_of_ble_eq_true rfl) ⟨by show k + 8 + 0 + 0 ≤ 600006; omega, by show q + 64 + 0 + 0 ≤ 7302056; omega⟩ (fun _ _ _ z => False.elim z) (fun r7 w7 sz7 _ hP7 => ?_)
    obtain ⟨rfl, rfl, rfl⟩ := hP7
    refine x_st (st1 := [.int (tm6 0)]) rfl ?_
    refine x_iload 1 416 C0 dL_law_414 rfl rfl ?_
    refine x_icmp_eq 421 419 C0 dL_law_416 rfl (by decide) (fun _ => ?_) (fun z => absurd hall6.2.1 z)
    refine x_iload 1 423 C0 dL_law_421 rfl rfl ?_
    refine x_if_ne 438 426 C0 dL_law_423 rfl (by decide) (fun _ => ?_) (fun hk0 => ?_)
    · skip
      refine x_goto 2017 C0 dL_law_438 (by decide) ?_
      exact x_widen (k + 256) (q + 2500) (by omega) (by omega) (x_lv [2, 3, 4, 5, 6, 7] rfl (kk _ _ _ ⟨hall6.1, hO5.mw, hD5.mw⟩))
    · obtain ⟨f9, hf9, hf90⟩ := hall6.2.2 hk0
      refine x_aload_n 5 427 C0 dL_law_426 rfl rfl rfl ?_
      refine x_iconst (v := 0) 428 C0 dL_law_427 rfl (by decide) ?_
      refine x_lald 3 429 C0 dL_law_428 rfl ((MW_ne (by omega)).trans hf9) rfl (by unfold vp_in; decide) ?_
      refine x_st (st1 := [.long (f9 0)]) rfl ?_
      refine x_iload 0 431 C0 dL_law_429 rfl rfl ?_
      refine x_i2l (v := (z6).toInt64) 432 C0 dL_law_431 rfl rfl ?_
      refine x_lcmpE 433 C0 dL_law_432 rfl hf90 ?_
      refine x_if_eq 438 436 C0 dL_law_433 rfl (by decide) (fun _ => ?_) (fun z => absurd rfl z)
      refine x_goto 2017 C0 dL_law_438 (by decide) ?_
      exact x_widen (k + 256) (q + 2500) (by omega) (by omega) (x_lv [2, 3, 4, 5, 6, 7] rfl (kk _ _ _ ⟨hall6.1, hO5.mw, hD5.mw⟩))
set_option maxHeartbeats 4000000 in
set_option maxRecDepth 100000 in
theorem law_c4 (hl : l.stackTraces = false) (C0 : xC p l s m args meth cD g cL_law 9 RL rt tb) (hX : va_X b L xs s s.heap) (hbl : b < s.heap.size) (hbA : ¬ xA g b) (hL : L ≤ 5) (i n k q B : Nat) (hi : i + 5 ≤ L) (hB : B ≤ 512) (hB0 : B = 0) (w : xw_T) (sz : Nat) (hI : LA g w sz n B) (hk : k + 256 ≤ 600006) (hq : q + 2500 ≤ 7302056) (kk : ∀ (w1 : xw_T) (sz1 n1 : Nat), LA g w1 sz1 n1 (B + 1) → xV p l e room_1 s m args below meth cD Q g 9 w1 sz1 (k + 256) (q + 2500) 2017 [(0, .ref b), (1, .ref (g.2 0)), (2, .ref (g.2 0 + 258)), (3, .ref (g.2 0 + 267)), (4, .ref (g.2 0 + 268)), (5, .int (nI i))] []) : xV p l e room_1 s m args below meth cD Q g 9 w sz k q 441 [(0, .ref b), (1, .ref (g.2 0)), (2, .ref (g.2 0 + 258)), (3, .ref (g.2 0 + 267)), (4, .ref (g.2 0 + 268)), (5, .int (nI i))] [] := by
  obtain ⟨⟨x, la, t, tt, vb, sg, LN, LF, tm, v, bf, sv, pa, lb, td, sm, c0, hc0, hC, hT, hM, hJ, hA, hRI, hRR⟩, hO, hD⟩ := hI
  refine x_aload_n 1 442 C0 dL_law_441 rfl rfl rfl ?_
  refine x_aload_n 0 443 C0 dL_law_442 rfl rfl rfl ?_
  refine x_iload 5 445 C0 dL_law_443 rfl rfl ?_
  refine x_iconst (v := 1) 446 C0 dL_law_445 rfl (by decide) ?_
  refine x_iadd 447 C0 dL_law_446 rfl ?_
  refine x_st (st1 := [.int (nI (i + 1)), .ref b, .ref (g.2 0)]) (congrArg (fun z => Value.int z :: _) (nI_add i 1)) ?_
  refine x_sld 448 C0 hX hbl hbA (vp_in_nI (n := i + 1) (by omega) (by omega)) dL_law_447 rfl ?_
  refine x_aload_n 3 449 C0 dL_law_448 rfl rfl rfl ?_
  refine x_callSH 452 C0 (e_L_make l hl g w sz n x la t tt vb sg hC hO ((xs (nI (i + 1)).toNatClampNeg))) dL_law_449 rfl mC_L_make mM_L_145 mS_L_make mN_L yd_L_make rfl rfl ⟨(Nat.le_of_ble_eq_true rfl), (Nat.le_of_ble_eq_true rfl)⟩ rfl rfl (Nat.le_of_ble_eq_true rfl) ⟨by show k + 8 ≤ 600006; omega, by show q + 64 ≤ 7302056; omega⟩ (fun _ _ _ z => False.elim z) (fun r1 w1 sz1 _ hP1 => ?_)
  obtain ⟨k1, x1, la1, t1, rfl, hz1, hF1, hC1, hd1⟩ := hP1
  have hO1 : wO g w1 := by
    rcases hd1 with ⟨-, v9, f9, -, h9, -⟩ | ⟨h9, -⟩
    · exact ⟨f9, h9⟩
    · exact h9
  have hM1 := hM.wf hF1 (Or.inl rfl) hC.zz
  have hT1 := hT.wf hF1 (Or.inl rfl) hz1
  have hD1 := hD.wf hF1 hC.zz
  refine x_st (st1 := [.int k1]) rfl ?_
  refine x_istore [(6, .int k1), (0, .ref b), (1, .ref (g.2 0)), (2, .ref (g.2 0 + 258)), (3, .ref (g.2 0 + 267)), (4, .ref (g.2 0 + 268)), (5, .int (nI i))] 454 C0 dL_law_452 rfl (by decide) rfl ?_
  refine x_aload_n 3 455 C0 dL_law_454 rfl rfl rfl ?_
  refine x_aload_n 1 456 C0 dL_law_455 rfl rfl rfl ?_
  refine x_iload 6 458 C0 dL_law_456 rfl rfl ?_
  refine x_iconst (v := 1) 459 C0 dL_law_458 rfl (by decide) ?_
  refine x_iadd 460 C0 dL_law_459 rfl ?_
  refine x_st (st1 := [.int (nI (i + 1)), .ref b, .ref (g.2 0 + 258)]) (congrArg (fun z => Value.int z :: _) (nI_add i 1)) ?_
  refine x_sld 461 C0 hX hbl hbA (vp_in_nI (n := i + 1) (by omega) (by omega)) dL_law_460 rfl ?_
  refine x_callV 464 C0 (k_X8_make l hl g w1 sz1 n tm v bf sv pa lb sg td sm hM1 hJ ((xs (nI (i + 1)).toNatClampNeg))) dL_law_461 rfl mC_X8_make mM_L_148 mI_X8_make mV_X8_make mN_X8 yd_X8_make rfl rfl ⟨(Nat.le_of_ble_eq_true rfl), (Nat.le_of_ble_eq_true rfl)⟩ hM1.o rfl rfl rfl rfl (Nat.le_of_ble_eq_true rfl) ⟨by show k + 8 + 0 ≤ 600006; omega, by show q + 64 + 0 ≤ 7302056; omega⟩ (fun _ _ _ z => False.elim z) (fun r2 w2 sz2 _ hP2 => ?_)
  obtain ⟨rfl, tm2, v2, bf2, pa2, lb2, rfl, hJ2, h72, hQ2⟩ := hP2
  obtain ⟨z2, rfl⟩ := cP_r hQ2
  have hall2 : AI g (MW g w1 tm2 v2 bf2 sv pa2 lb2 sg td sm) sz1 n (B + 1) ∧ tm2 0 = k1 ∧ (k1 = 0 → ∃ f, wOf g w1 f ∧ f 0 = Int32.toInt64 z2) := by
    rcases hd1 with ⟨hk9, v9, f9, hL9, ho9, hf9⟩ | ⟨-, E9, hX9, hk9⟩
    · obtain ⟨hr9, hz9, c9, LN9, LF9, hc9, hT9, hA9⟩ := al_make_y ((xs (nI (i + 1)).toNatClampNeg)) hA hT1 hC.k0 (by omega) h72 hQ2 hL9
      exact ⟨⟨_, _, _, _, _, _, _, _, _, _, _, _, _, _, _, _, _, Nat.le_trans hc9 (by omega), hC1.mw, hT9.mw, MR_MW, hJ2, hA9, ri_make hRI hQ2, fun h => absurd h (Nat.succ_ne_zero _)⟩, hz9.trans hk9.symm, fun _ => ⟨f9, ho9, hf9.trans (congrArg Int32.toInt64 (Value.int.inj (Option.some.inj hr9)))⟩⟩
    · obtain ⟨hz9, c9, LN9, LF9, hc9, hT9, hA9⟩ := al_make_n ((xs (nI (i + 1)).toNatClampNeg)) hA hT1 hC.k0 (by omega) h72 hQ2 hX9
      exact ⟨⟨_, _, _, _, _, _, _, _, _, _, _, _, _, _, _, _, _, Nat.le_trans hc9 (by omega), hC1.mw, hT9.mw, MR_MW, hJ2, hA9, ri_make hRI hQ2, fun h => absurd h (Nat.succ_ne_zero _)⟩, hz9.trans hk9.symm, fun z => absurd (hk9.symm.trans z) (kc_make hX9)⟩
  refine x_st (st1 := [.int z2]) rfl ?_
  refine x_istore [(7, .int z2), (6, .int k1), (0, .ref b), (1, .ref (g.2 0)), (2, .ref (g.2 0 + 258)), (3, .ref (g.2 0 + 267)), (4, .ref (g.2 0 + 268)), (5, .int (nI i))] 466 C0 dL_law_464 rfl (by decide) rfl ?_
  refine x_aload_n 4 467 C0 dL_law_466 rfl rfl rfl ?_
  refine x_callV 470 C0 (k_X8_thrown l hl g (MW g w1 tm2 v2 bf2 sv pa2 lb2 sg td sm) sz1 n tm2 v2 bf2 sv pa2 lb2 sg td sm MR_MW hJ2) dL_law_467 rfl mC_X8_thrown mM_L_130 mI_X8_thrown mV_X8_thrown mN_X8 yd_X8_thrown rfl rfl ⟨(Nat.le_of_ble_eq_true rfl), (Nat.le_of_ble_eq_true rfl)⟩ MR_MW.o rfl rfl rfl rfl (Nat.le_of_ble_eq_true rfl) ⟨by show k + 8 + 0 + 0 ≤ 600006; omega, by show q + 64 + 0 + 0 ≤ 7302056; omega⟩ (fun _ _ _ z => False.elim z) (fun r3 w3 sz3 _ hP3 => ?_)
  obtain ⟨rfl, rfl, rfl⟩ := hP3
  refine x_st (st1 := [.int (tm2 0)]) rfl ?_
  refine x_iload 1 472 C0 dL_law_470 rfl rfl ?_
  refine x_icmp_eq 477 475 C0 dL_law_472 rfl (by decide) (fun _ => ?_) (fun z => absurd hall2.2.1 z)
  refine x_iload 1 479 C0 dL_law_477 rfl rfl ?_
  refine x_if_ne 494 482 C0 dL_law_479 rfl (by decide) (fun _ => ?_) (fun hk0 => ?_)
  · skip
    refine x_goto 2017 C0 dL_law_494 (by decide) ?_
    exact x_widen (k + 256) (q + 2500) (by omega) (by omega) (x_lv [2, 3, 4, 5, 6, 7] rfl (kk _ _ _ ⟨hall2.1, hO1.mw, hD1.mw⟩))
  · obtain ⟨f9, hf9, hf90⟩ := hall2.2.2 hk0
    refine x_aload_n 5 483 C0 dL_law_482 rfl rfl rfl ?_
    refine x_iconst (v := 0) 484 C0 dL_law_483 rfl (by decide) ?_
    refine x_lald 3 485 C0 dL_law_484 rfl ((MW_ne (by omega)).trans hf9) rfl (by unfold vp_in; decide) ?_
    refine x_st (st1 := [.long (f9 0)]) rfl ?_
    refine x_iload 0 487 C0 dL_law_485 rfl rfl ?_
    refine x_i2l (v := (z2).toInt64) 488 C0 dL_law_487 rfl rfl ?_
    refine x_lcmpE 489 C0 dL_law_488 rfl hf90 ?_
    refine x_if_eq 494 492 C0 dL_law_489 rfl (by decide) (fun _ => ?_) (fun z => absurd rfl z)
    refine x_goto 2017 C0 dL_law_494 (by decide) ?_
    exact x_widen (k + 256) (q + 2500) (by omega) (by omega) (x_lv [2, 3, 4, 5, 6, 7] rfl (kk _ _ _ ⟨hall2.1, hO1.mw, hD1.mw⟩))
set_option maxHeartbeats 4000000 in
set_option maxRecDepth 100000 in
theorem law_c5 (hl : l.stackTraces = false) (C0 : xC p l s m args meth cD g cL_law 9 RL rt tb) (hX : va_X b L xs s s.heap) (hbl : b < s.heap.size) (hbA : ¬ xA g b) (hL : L ≤ 5) (i n k q B : Nat) (hi : i + 5 ≤ L) (hB : B ≤ 512) (hB0 : B = 0) (w : xw_T) (sz : Nat) (hI : LA g w sz n B) (hk : k + 256 ≤ 600006) (hq : q + 2500 ≤ 7302056) (kk : ∀ (w1 : xw_T) (sz1 n1 : Nat), LA g w1 sz1 n1 (B + 1) → xV p l e room_1 s m args below meth cD Q g 9 w1 sz1 (k + 256) (q + 2500) 2017 [(0, .ref b), (1, .ref (g.2 0)), (2, .ref (g.2 0 + 258)), (3, .ref (g.2 0 + 267)), (4, .ref (g.2 0 + 268)), (5, .int (nI i))] []) : xV p l e room_1 s m args below meth cD Q g 9 w sz k q 497 [(0, .ref b), (1, .ref (g.2 0)), (2, .ref (g.2 0 + 258)), (3, .ref (g.2 0 + 267)), (4, .ref (g.2 0 + 268)), (5, .int (nI i))] [] := by
  obtain ⟨⟨x, la, t, tt, vb, sg, LN, LF, tm, v, bf, sv, pa, lb, td, sm, c0, hc0, hC, hT, hM, hJ, hA, hRI, hRR⟩, hO, hD⟩ := hI
  refine x_aload_n 1 498 C0 dL_law_497 rfl rfl rfl ?_
  refine x_aload_n 0 499 C0 dL_law_498 rfl rfl rfl ?_
  refine x_iload 5 501 C0 dL_law_499 rfl rfl ?_
  refine x_iconst (v := 1) 502 C0 dL_law_501 rfl (by decide) ?_
  refine x_iadd 503 C0 dL_law_502 rfl ?_
  refine x_st (st1 := [.int (nI (i + 1)), .ref b, .ref (g.2 0)]) (congrArg (fun z => Value.int z :: _) (nI_add i 1)) ?_
  refine x_sld 504 C0 hX hbl hbA (vp_in_nI (n := i + 1) (by omega) (by omega)) dL_law_503 rfl ?_
  refine x_aload_n 3 505 C0 dL_law_504 rfl rfl rfl ?_
  refine x_callSH 508 C0 (e_L_line l hl g w sz n x la t tt vb sg hC hO ((xs (nI (i + 1)).toNatClampNeg))) dL_law_505 rfl mC_L_line mM_L_149 mS_L_line mN_L yd_L_line rfl rfl ⟨(Nat.le_of_ble_eq_true rfl), (Nat.le_of_ble_eq_true rfl)⟩ rfl rfl (Nat.le_of_ble_eq_true rfl) ⟨by show k + 8 ≤ 600006; omega, by show q + 64 ≤ 7302056; omega⟩ (fun _ _ _ z => False.elim z) (fun r1 w1 sz1 _ hP1 => ?_)
  obtain ⟨k1, x1, la1, t1, rfl, hz1, hF1, hC1, hd1⟩ := hP1
  have hO1 : wO g w1 := by
    rcases hd1 with ⟨-, v9, f9, -, h9, -⟩ | ⟨h9, -⟩
    · exact ⟨f9, h9⟩
    · exact h9
  have hM1 := hM.wf hF1 (Or.inl rfl) hC.zz
  have hT1 := hT.wf hF1 (Or.inl rfl) hz1
  have hD1 := hD.wf hF1 hC.zz
  refine x_st (st1 := [.int k1]) rfl ?_
  refine x_istore [(6, .int k1), (0, .ref b), (1, .ref (g.2 0)), (2, .ref (g.2 0 + 258)), (3, .ref (g.2 0 + 267)), (4, .ref (g.2 0 + 268)), (5, .int (nI i))] 510 C0 dL_law_508 rfl (by decide) rfl ?_
  refine x_aload_n 3 511 C0 dL_law_510 rfl rfl rfl ?_
  refine x_aload_n 1 512 C0 dL_law_511 rfl rfl rfl ?_
  refine x_iload 6 514 C0 dL_law_512 rfl rfl ?_
  refine x_iconst (v := 1) 515 C0 dL_law_514 rfl (by decide) ?_
  refine x_iadd 516 C0 dL_law_515 rfl ?_
  refine x_st (st1 := [.int (nI (i + 1)), .ref b, .ref (g.2 0 + 258)]) (congrArg (fun z => Value.int z :: _) (nI_add i 1)) ?_
  refine x_sld 517 C0 hX hbl hbA (vp_in_nI (n := i + 1) (by omega) (by omega)) dL_law_516 rfl ?_
  refine x_callV 520 C0 (k_X8_line l hl g w1 sz1 n tm v bf sv pa lb sg td sm hM1 hJ ((xs (nI (i + 1)).toNatClampNeg))) dL_law_517 rfl mC_X8_line mM_L_151 mI_X8_line mV_X8_line mN_X8 yd_X8_line rfl rfl ⟨(Nat.le_of_ble_eq_true rfl), (Nat.le_of_ble_eq_true rfl)⟩ hM1.o rfl rfl rfl rfl (Nat.le_of_ble_eq_true rfl) ⟨by show k + 8 + 0 ≤ 600006; omega, by show q + 64 + 0 ≤ 7302056; omega⟩ (fun _ _ _ z => False.elim z) (fun r2 w2 sz2 _ hP2 => ?_)
  obtain ⟨rfl, tm2, v2, bf2, pa2, lb2, rfl, hJ2, h72, hQ2⟩ := hP2
  obtain ⟨z2, rfl⟩ := cP_r hQ2
  have hall2 : AI g (MW g w1 tm2 v2 bf2 sv pa2 lb2 sg td sm) sz1 n (B + 1) ∧ tm2 0 = k1 ∧ (k1 = 0 → ∃ f, wOf g w1 f ∧ f 0 = Int32.toInt64 z2) := by
    rcases hd1 with ⟨hk9, v9, f9, hL9, ho9, hf9⟩ | ⟨-, E9, hX9, hk9⟩
    · obtain ⟨hr9, hz9, c9, LN9, LF9, hc9, hT9, hA9⟩ := al_line_y ((xs (nI (i + 1)).toNatClampNeg)) hA hT1 hC.k0 (by omega) h72 hQ2 hL9
      exact ⟨⟨_, _, _, _, _, _, _, _, _, _, _, _, _, _, _, _, _, Nat.le_trans hc9 (by omega), hC1.mw, hT9.mw, MR_MW, hJ2, hA9, ri_line hRI hQ2, fun h => absurd h (Nat.succ_ne_zero _)⟩, hz9.trans hk9.symm, fun _ => ⟨f9, ho9, hf9.trans (congrArg Int32.toInt64 (Value.int.inj (Option.some.inj hr9)))⟩⟩
    · obtain ⟨hz9, c9, LN9, LF9, hc9, hT9, hA9⟩ := al_line_n ((xs (nI (i + 1)).toNatClampNeg)) hA hT1 hC.k0 (by omega) h72 hQ2 hX9
      exact ⟨⟨_, _, _, _, _, _, _, _, _, _, _, _, _, _, _, _, _, Nat.le_trans hc9 (by omega), hC1.mw, hT9.mw, MR_MW, hJ2, hA9, ri_line hRI hQ2, fun h => absurd h (Nat.succ_ne_zero _)⟩, hz9.trans hk9.symm, fun z => absurd (hk9.symm.trans z) (kc_line hX9)⟩
  refine x_st (st1 := [.int z2]) rfl ?_
  refine x_istore [(7, .int z2), (6, .int k1), (0, .ref b), (1, .ref (g.2 0)), (2, .ref (g.2 0 + 258)), (3, .ref (g.2 0 + 267)), (4, .ref (g.2 0 + 268)), (5, .int (nI i))] 522 C0 dL_law_520 rfl (by decide) rfl ?_
  refine x_aload_n 4 523 C0 dL_law_522 rfl rfl rfl ?_
  refine x_callV 526 C0 (k_X8_thrown l hl g (MW g w1 tm2 v2 bf2 sv pa2 lb2 sg td sm) sz1 n tm2 v2 bf2 sv pa2 lb2 sg td sm MR_MW hJ2) dL_law_523 rfl mC_X8_thrown mM_L_130 mI_X8_thrown mV_X8_thrown mN_X8 yd_X8_thrown rfl rfl ⟨(Nat.le_of_ble_eq_true rfl), (Nat.le_of_ble_eq_true rfl)⟩ MR_MW.o rfl rfl rfl rfl (Nat.le_of_ble_eq_true rfl) ⟨by show k + 8 + 0 + 0 ≤ 600006; omega, by show q + 64 + 0 + 0 ≤ 7302056; omega⟩ (fun _ _ _ z => False.elim z) (fun r3 w3 sz3 _ hP3 => ?_)
  obtain ⟨rfl, rfl, rfl⟩ := hP3
  refine x_st (st1 := [.int (tm2 0)]) rfl ?_
  refine x_iload 1 528 C0 dL_law_526 rfl rfl ?_
  refine x_icmp_eq 533 531 C0 dL_law_528 rfl (by decide) (fun _ => ?_) (fun z => absurd hall2.2.1 z)
  refine x_iload 1 535 C0 dL_law_533 rfl rfl ?_
  refine x_if_ne 550 538 C0 dL_law_535 rfl (by decide) (fun _ => ?_) (fun hk0 => ?_)
  · skip
    refine x_goto 2017 C0 dL_law_550 (by decide) ?_
    exact x_widen (k + 256) (q + 2500) (by omega) (by omega) (x_lv [2, 3, 4, 5, 6, 7] rfl (kk _ _ _ ⟨hall2.1, hO1.mw, hD1.mw⟩))
  · obtain ⟨f9, hf9, hf90⟩ := hall2.2.2 hk0
    refine x_aload_n 5 539 C0 dL_law_538 rfl rfl rfl ?_
    refine x_iconst (v := 0) 540 C0 dL_law_539 rfl (by decide) ?_
    refine x_lald 3 541 C0 dL_law_540 rfl ((MW_ne (by omega)).trans hf9) rfl (by unfold vp_in; decide) ?_
    refine x_st (st1 := [.long (f9 0)]) rfl ?_
    refine x_iload 0 543 C0 dL_law_541 rfl rfl ?_
    refine x_i2l (v := (z2).toInt64) 544 C0 dL_law_543 rfl rfl ?_
    refine x_lcmpE 545 C0 dL_law_544 rfl hf90 ?_
    refine x_if_eq 550 548 C0 dL_law_545 rfl (by decide) (fun _ => ?_) (fun z => absurd rfl z)
    refine x_goto 2017 C0 dL_law_550 (by decide) ?_
    exact x_widen (k + 256) (q + 2500) (by omega) (by omega) (x_lv [2, 3, 4, 5, 6, 7] rfl (kk _ _ _ ⟨hall2.1, hO1.mw, hD1.mw⟩))
set_option maxHeartbeats 4000000 in
set_option maxRecDepth 100000 in
theorem law_c6 (hl : l.stackTraces = false) (C0 : xC p l s m args meth cD g cL_law 9 RL rt tb) (hX : va_X b L xs s s.heap) (hbl : b < s.heap.size) (hbA : ¬ xA g b) (hL : L ≤ 5) (i n k q B : Nat) (hi : i + 5 ≤ L) (hB : B ≤ 512) (hB0 : B = 0) (w : xw_T) (sz : Nat) (hI : LA g w sz n B) (hk : k + 256 ≤ 600006) (hq : q + 2500 ≤ 7302056) (kk : ∀ (w1 : xw_T) (sz1 n1 : Nat), LA g w1 sz1 n1 (B + 1) → xV p l e room_1 s m args below meth cD Q g 9 w1 sz1 (k + 256) (q + 2500) 2017 [(0, .ref b), (1, .ref (g.2 0)), (2, .ref (g.2 0 + 258)), (3, .ref (g.2 0 + 267)), (4, .ref (g.2 0 + 268)), (5, .int (nI i))] []) : xV p l e room_1 s m args below meth cD Q g 9 w sz k q 553 [(0, .ref b), (1, .ref (g.2 0)), (2, .ref (g.2 0 + 258)), (3, .ref (g.2 0 + 267)), (4, .ref (g.2 0 + 268)), (5, .int (nI i))] [] := by
  obtain ⟨⟨x, la, t, tt, vb, sg, LN, LF, tm, v, bf, sv, pa, lb, td, sm, c0, hc0, hC, hT, hM, hJ, hA, hRI, hRR⟩, hO, hD⟩ := hI
  refine x_aload_n 1 554 C0 dL_law_553 rfl rfl rfl ?_
  refine x_aload_n 0 555 C0 dL_law_554 rfl rfl rfl ?_
  refine x_iload 5 557 C0 dL_law_555 rfl rfl ?_
  refine x_iconst (v := 1) 558 C0 dL_law_557 rfl (by decide) ?_
  refine x_iadd 559 C0 dL_law_558 rfl ?_
  refine x_st (st1 := [.int (nI (i + 1)), .ref b, .ref (g.2 0)]) (congrArg (fun z => Value.int z :: _) (nI_add i 1)) ?_
  refine x_sld 560 C0 hX hbl hbA (vp_in_nI (n := i + 1) (by omega) (by omega)) dL_law_559 rfl ?_
  refine x_aload_n 0 561 C0 dL_law_560 rfl rfl rfl ?_
  refine x_iload 5 563 C0 dL_law_561 rfl rfl ?_
  refine x_iconst (v := 2) 564 C0 dL_law_563 rfl (by decide) ?_
  refine x_iadd 565 C0 dL_law_564 rfl ?_
  refine x_st (st1 := [.int (nI (i + 2)), .ref b, .int (xs (nI (i + 1)).toNatClampNeg), .ref (g.2 0)]) (congrArg (fun z => Value.int z :: _) (nI_add i 2)) ?_
  refine x_sld 566 C0 hX hbl hbA (vp_in_nI (n := i + 2) (by omega) (by omega)) dL_law_565 rfl ?_
  refine x_aload_n 0 567 C0 dL_law_566 rfl rfl rfl ?_
  refine x_iload 5 569 C0 dL_law_567 rfl rfl ?_
  refine x_iconst (v := 3) 570 C0 dL_law_569 rfl (by decide) ?_
  refine x_iadd 571 C0 dL_law_570 rfl ?_
  refine x_st (st1 := [.int (nI (i + 3)), .ref b, .int (xs (nI (i + 2)).toNatClampNeg), .int (xs (nI (i + 1)).toNatClampNeg), .ref (g.2 0)]) (congrArg (fun z => Value.int z :: _) (nI_add i 3)) ?_
  refine x_sld 572 C0 hX hbl hbA (vp_in_nI (n := i + 3) (by omega) (by omega)) dL_law_571 rfl ?_
  refine x_aload_n 0 573 C0 dL_law_572 rfl rfl rfl ?_
  refine x_iload 5 575 C0 dL_law_573 rfl rfl ?_
  refine x_iconst (v := 4) 576 C0 dL_law_575 rfl (by decide) ?_
  refine x_iadd 577 C0 dL_law_576 rfl ?_
  refine x_st (st1 := [.int (nI (i + 4)), .ref b, .int (xs (nI (i + 3)).toNatClampNeg), .int (xs (nI (i + 2)).toNatClampNeg), .int (xs (nI (i + 1)).toNatClampNeg), .ref (g.2 0)]) (congrArg (fun z => Value.int z :: _) (nI_add i 4)) ?_
  refine x_sld 578 C0 hX hbl hbA (vp_in_nI (n := i + 4) (by omega) (by omega)) dL_law_577 rfl ?_
  refine x_aload_n 3 579 C0 dL_law_578 rfl rfl rfl ?_
  refine x_callSH 582 C0 (e_L_fill l hl g w sz n x la t tt vb sg hC hO ((xs (nI (i + 1)).toNatClampNeg)) ((xs (nI (i + 2)).toNatClampNeg)) ((xs (nI (i + 3)).toNatClampNeg)) ((xs (nI (i + 4)).toNatClampNeg))) dL_law_579 rfl mC_L_fill mM_L_152 mS_L_fill mN_L yd_L_fill rfl rfl ⟨(Nat.le_of_ble_eq_true rfl), (Nat.le_of_ble_eq_true rfl)⟩ rfl rfl (Nat.le_of_ble_eq_true rfl) ⟨by show k + 8 ≤ 600006; omega, by show q + 64 ≤ 7302056; omega⟩ (fun _ _ _ z => False.elim z) (fun r1 w1 sz1 _ hP1 => ?_)
  obtain ⟨k1, x1, la1, t1, rfl, hz1, hF1, hC1, hd1⟩ := hP1
  have hO1 : wO g w1 := by
    rcases hd1 with ⟨-, v9, f9, -, h9, -⟩ | ⟨h9, -⟩
    · exact ⟨f9, h9⟩
    · exact h9
  have hM1 := hM.wf hF1 (Or.inl rfl) hC.zz
  have hT1 := hT.wf hF1 (Or.inl rfl) hz1
  have hD1 := hD.wf hF1 hC.zz
  refine x_st (st1 := [.int k1]) rfl ?_
  refine x_istore [(6, .int k1), (0, .ref b), (1, .ref (g.2 0)), (2, .ref (g.2 0 + 258)), (3, .ref (g.2 0 + 267)), (4, .ref (g.2 0 + 268)), (5, .int (nI i))] 584 C0 dL_law_582 rfl (by decide) rfl ?_
  refine x_aload_n 3 585 C0 dL_law_584 rfl rfl rfl ?_
  refine x_aload_n 1 586 C0 dL_law_585 rfl rfl rfl ?_
  refine x_iload 6 588 C0 dL_law_586 rfl rfl ?_
  refine x_iconst (v := 1) 589 C0 dL_law_588 rfl (by decide) ?_
  refine x_iadd 590 C0 dL_law_589 rfl ?_
  refine x_st (st1 := [.int (nI (i + 1)), .ref b, .ref (g.2 0 + 258)]) (congrArg (fun z => Value.int z :: _) (nI_add i 1)) ?_
  refine x_sld 591 C0 hX hbl hbA (vp_in_nI (n := i + 1) (by omega) (by omega)) dL_law_590 rfl ?_
  refine x_aload_n 1 592 C0 dL_law_591 rfl rfl rfl ?_
  refine x_iload 6 594 C0 dL_law_592 rfl rfl ?_
  refine x_iconst (v := 2) 595 C0 dL_law_594 rfl (by decide) ?_
  refine x_iadd 596 C0 dL_law_595 rfl ?_
  refine x_st (st1 := [.int (nI (i + 2)), .ref b, .int (xs (nI (i + 1)).toNatClampNeg), .ref (g.2 0 + 258)]) (congrArg (fun z => Value.int z :: _) (nI_add i 2)) ?_
  refine x_sld 597 C0 hX hbl hbA (vp_in_nI (n := i + 2) (by omega) (by omega)) dL_law_596 rfl ?_
  refine x_aload_n 1 598 C0 dL_law_597 rfl rfl rfl ?_
  refine x_iload 6 600 C0 dL_law_598 rfl rfl ?_
  refine x_iconst (v := 3) 601 C0 dL_law_600 rfl (by decide) ?_
  refine x_iadd 602 C0 dL_law_601 rfl ?_
  refine x_st (st1 := [.int (nI (i + 3)), .ref b, .int (xs (nI (i + 2)).toNatClampNeg), .int (xs (nI (i + 1)).toNatClampNeg), .ref (g.2 0 + 258)]) (congrArg (fun z => Value.int z :: _) (nI_add i 3)) ?_
  refine x_sld 603 C0 hX hbl hbA (vp_in_nI (n := i + 3) (by omega) (by omega)) dL_law_602 rfl ?_
  refine x_aload_n 1 604 C0 dL_law_603 rfl rfl rfl ?_
  refine x_iload 6 606 C0 dL_law_604 rfl rfl ?_
  refine x_iconst (v := 4) 607 C0 dL_law_606 rfl (by decide) ?_
  refine x_iadd 608 C0 dL_law_607 rfl ?_
  refine x_st (st1 := [.int (nI (i + 4)), .ref b, .int (xs (nI (i + 3)).toNatClampNeg), .int (xs (nI (i + 2)).toNatClampNeg), .int (xs (nI (i + 1)).toNatClampNeg), .ref (g.2 0 + 258)]) (congrArg (fun z => Value.int z :: _) (nI_add i 4)) ?_
  refine x_sld 609 C0 hX hbl hbA (vp_in_nI (n := i + 4) (by omega) (by omega)) dL_law_608 rfl ?_
  refine x_callV 612 C0 (k_X8_fill l hl g w1 sz1 n tm v bf sv pa lb sg td sm hM1 hJ ((xs (nI (i + 1)).toNatClampNeg)) ((xs (nI (i + 2)).toNatClampNeg)) ((xs (nI (i + 3)).toNatClampNeg)) ((xs (nI (i + 4)).toNatClampNeg))) dL_law_609 rfl mC_X8_fill mM_L_155 mI_X8_fill mV_X8_fill mN_X8 yd_X8_fill rfl rfl ⟨(Nat.le_of_ble_eq_true rfl), (Nat.le_of_ble_eq_true rfl)⟩ hM1.o rfl rfl rfl rfl (Nat.le_of_ble_eq_true rfl) ⟨by show k + 8 + 0 ≤ 600006; omega, by show q + 64 + 0 ≤ 7302056; omega⟩ (fun _ _ _ z => False.elim z) (fun r2 w2 sz2 _ hP2 => ?_)
  obtain ⟨rfl, tm2, v2, bf2, pa2, lb2, rfl, hJ2, h72, hQ2⟩ := hP2
  obtain ⟨z2, rfl⟩ := cP_r hQ2
  have hall2 : AI g (MW g w1 tm2 v2 bf2 sv pa2 lb2 sg td sm) sz1 n (B + 1) ∧ tm2 0 = k1 ∧ (k1 = 0 → ∃ f, wOf g w1 f ∧ f 0 = Int32.toInt64 z2) := by
    rcases hd1 with ⟨hk9, v9, f9, hL9, ho9, hf9⟩ | ⟨-, E9, hX9, hk9⟩
    · obtain ⟨hr9, hz9, c9, LN9, LF9, hc9, hT9, hA9⟩ := al9_fill_y ((xs (nI (i + 1)).toNatClampNeg)) ((xs (nI (i + 2)).toNatClampNeg)) ((xs (nI (i + 3)).toNatClampNeg)) ((xs (nI (i + 4)).toNatClampNeg)) hA hT1 hC.k0 (by omega) h72 hQ2 hL9
      exact ⟨⟨_, _, _, _, _, _, _, _, _, _, _, _, _, _, _, _, _, Nat.le_trans hc9 (by omega), hC1.mw, hT9.mw, MR_MW, hJ2, hA9, ri_fill hRI hQ2, fun h => absurd h (Nat.succ_ne_zero _)⟩, hz9.trans hk9.symm, fun _ => ⟨f9, ho9, hf9.trans (congrArg Int32.toInt64 (Value.int.inj (Option.some.inj hr9)))⟩⟩
    · obtain ⟨hz9, c9, LN9, LF9, hc9, hT9, hA9⟩ := al_fill_n ((xs (nI (i + 1)).toNatClampNeg)) ((xs (nI (i + 2)).toNatClampNeg)) ((xs (nI (i + 3)).toNatClampNeg)) ((xs (nI (i + 4)).toNatClampNeg)) hA hT1 hC.k0 (by omega) h72 hQ2 hX9
      exact ⟨⟨_, _, _, _, _, _, _, _, _, _, _, _, _, _, _, _, _, Nat.le_trans hc9 (by omega), hC1.mw, hT9.mw, MR_MW, hJ2, hA9, ri_fill hRI hQ2, fun h => absurd h (Nat.succ_ne_zero _)⟩, hz9.trans hk9.symm, fun z => absurd (hk9.symm.trans z) (kc_fill hX9)⟩
  refine x_st (st1 := [.int z2]) rfl ?_
  refine x_istore [(7, .int z2), (6, .int k1), (0, .ref b), (1, .ref (g.2 0)), (2, .ref (g.2 0 + 258)), (3, .ref (g.2 0 + 267)), (4, .ref (g.2 0 + 268)), (5, .int (nI i))] 614 C0 dL_law_612 rfl (by decide) rfl ?_
  refine x_aload_n 4 615 C0 dL_law_614 rfl rfl rfl ?_
  refine x_callV 618 C0 (k_X8_thrown l hl g (MW g w1 tm2 v2 bf2 sv pa2 lb2 sg td sm) sz1 n tm2 v2 bf2 sv pa2 lb2 sg td sm MR_MW hJ2) dL_law_615 rfl mC_X8_thrown mM_L_130 mI_X8_thrown mV_X8_thrown mN_X8 yd_X8_thrown rfl rfl ⟨(Nat.le_of_ble_eq_true rfl), (Nat.le_of_ble_eq_true rfl)⟩ MR_MW.o rfl rfl rfl rfl (Nat.le_of_ble_eq_true rfl) ⟨by show k + 8 + 0 + 0 ≤ 600006; omega, by show q + 64 + 0 + 0 ≤ 7302056; omega⟩ (fun _ _ _ z => False.elim z) (fun r3 w3 sz3 _ hP3 => ?_)
  obtain ⟨rfl, rfl, rfl⟩ := hP3
  refine x_st (st1 := [.int (tm2 0)]) rfl ?_
  refine x_iload 1 620 C0 dL_law_618 rfl rfl ?_
  refine x_icmp_eq 625 623 C0 dL_law_620 rfl (by decide) (fun _ => ?_) (fun z => absurd hall2.2.1 z)
  refine x_iload 1 627 C0 dL_law_625 rfl rfl ?_
  refine x_if_ne 642 630 C0 dL_law_627 rfl (by decide) (fun _ => ?_) (fun hk0 => ?_)
  · skip
    refine x_goto 2017 C0 dL_law_642 (by decide) ?_
    exact x_widen (k + 256) (q + 2500) (by omega) (by omega) (x_lv [2, 3, 4, 5, 6, 7] rfl (kk _ _ _ ⟨hall2.1, hO1.mw, hD1.mw⟩))
  · obtain ⟨f9, hf9, hf90⟩ := hall2.2.2 hk0
    refine x_aload_n 5 631 C0 dL_law_630 rfl rfl rfl ?_
    refine x_iconst (v := 0) 632 C0 dL_law_631 rfl (by decide) ?_
    refine x_lald 3 633 C0 dL_law_632 rfl ((MW_ne (by omega)).trans hf9) rfl (by unfold vp_in; decide) ?_
    refine x_st (st1 := [.long (f9 0)]) rfl ?_
    refine x_iload 0 635 C0 dL_law_633 rfl rfl ?_
    refine x_i2l (v := (z2).toInt64) 636 C0 dL_law_635 rfl rfl ?_
    refine x_lcmpE 637 C0 dL_law_636 rfl hf90 ?_
    refine x_if_eq 642 640 C0 dL_law_637 rfl (by decide) (fun _ => ?_) (fun z => absurd rfl z)
    refine x_goto 2017 C0 dL_law_642 (by decide) ?_
    exact x_widen (k + 256) (q + 2500) (by omega) (by omega) (x_lv [2, 3, 4, 5, 6, 7] rfl (kk _ _ _ ⟨hall2.1, hO1.mw, hD1.mw⟩))
set_option maxHeartbeats 4000000 in
set_option maxRecDepth 100000 in
theorem law_c7 (hl : l.stackTraces = false) (C0 : xC p l s m args meth cD g cL_law 9 RL rt tb) (hX : va_X b L xs s s.heap) (hbl : b < s.heap.size) (hbA : ¬ xA g b) (hL : L ≤ 5) (i n k q B : Nat) (hi : i + 5 ≤ L) (hB : B ≤ 512) (hB0 : B = 0) (w : xw_T) (sz : Nat) (hI : LA g w sz n B) (hk : k + 256 ≤ 600006) (hq : q + 2500 ≤ 7302056) (kk : ∀ (w1 : xw_T) (sz1 n1 : Nat), LA g w1 sz1 n1 (B + 1) → xV p l e room_1 s m args below meth cD Q g 9 w1 sz1 (k + 256) (q + 2500) 2017 [(0, .ref b), (1, .ref (g.2 0)), (2, .ref (g.2 0 + 258)), (3, .ref (g.2 0 + 267)), (4, .ref (g.2 0 + 268)), (5, .int (nI i))] []) : xV p l e room_1 s m args below meth cD Q g 9 w sz k q 645 [(0, .ref b), (1, .ref (g.2 0)), (2, .ref (g.2 0 + 258)), (3, .ref (g.2 0 + 267)), (4, .ref (g.2 0 + 268)), (5, .int (nI i))] [] := by
  obtain ⟨⟨x, la, t, tt, vb, sg, LN, LF, tm, v, bf, sv, pa, lb, td, sm, c0, hc0, hC, hT, hM, hJ, hA, hRI, hRR⟩, hO, hD⟩ := hI
  refine x_aload_n 1 646 C0 dL_law_645 rfl rfl rfl ?_
  refine x_aload_n 0 647 C0 dL_law_646 rfl rfl rfl ?_
  refine x_iload 5 649 C0 dL_law_647 rfl rfl ?_
  refine x_iconst (v := 1) 650 C0 dL_law_649 rfl (by decide) ?_
  refine x_iadd 651 C0 dL_law_650 rfl ?_
  refine x_st (st1 := [.int (nI (i + 1)), .ref b, .ref (g.2 0)]) (congrArg (fun z => Value.int z :: _) (nI_add i 1)) ?_
  refine x_sld 652 C0 hX hbl hbA (vp_in_nI (n := i + 1) (by omega) (by omega)) dL_law_651 rfl ?_
  refine x_aload_n 3 653 C0 dL_law_652 rfl rfl rfl ?_
  refine x_callSH 656 C0 (e_L_empty l hl g w sz n x la t tt vb sg hC hO ((xs (nI (i + 1)).toNatClampNeg))) dL_law_653 rfl mC_L_empty mM_L_156 mS_L_empty mN_L yd_L_empty rfl rfl ⟨(Nat.le_of_ble_eq_true rfl), (Nat.le_of_ble_eq_true rfl)⟩ rfl rfl (Nat.le_of_ble_eq_true rfl) ⟨by show k + 8 ≤ 600006; omega, by show q + 64 ≤ 7302056; omega⟩ (fun _ _ _ z => False.elim z) (fun r1 w1 sz1 _ hP1 => ?_)
  obtain ⟨k1, x1, la1, t1, rfl, hz1, hF1, hC1, hd1⟩ := hP1
  have hO1 : wO g w1 := by
    rcases hd1 with ⟨-, v9, f9, -, h9, -⟩ | ⟨h9, -⟩
    · exact ⟨f9, h9⟩
    · exact h9
  have hM1 := hM.wf hF1 (Or.inl rfl) hC.zz
  have hT1 := hT.wf hF1 (Or.inl rfl) hz1
  have hD1 := hD.wf hF1 hC.zz
  refine x_st (st1 := [.int k1]) rfl ?_
  refine x_istore [(6, .int k1), (0, .ref b), (1, .ref (g.2 0)), (2, .ref (g.2 0 + 258)), (3, .ref (g.2 0 + 267)), (4, .ref (g.2 0 + 268)), (5, .int (nI i))] 658 C0 dL_law_656 rfl (by decide) rfl ?_
  refine x_aload_n 3 659 C0 dL_law_658 rfl rfl rfl ?_
  refine x_aload_n 1 660 C0 dL_law_659 rfl rfl rfl ?_
  refine x_iload 6 662 C0 dL_law_660 rfl rfl ?_
  refine x_iconst (v := 1) 663 C0 dL_law_662 rfl (by decide) ?_
  refine x_iadd 664 C0 dL_law_663 rfl ?_
  refine x_st (st1 := [.int (nI (i + 1)), .ref b, .ref (g.2 0 + 258)]) (congrArg (fun z => Value.int z :: _) (nI_add i 1)) ?_
  refine x_sld 665 C0 hX hbl hbA (vp_in_nI (n := i + 1) (by omega) (by omega)) dL_law_664 rfl ?_
  refine x_callV 668 C0 (k_X8_empty l hl g w1 sz1 n tm v bf sv pa lb sg td sm hM1 hJ ((xs (nI (i + 1)).toNatClampNeg))) dL_law_665 rfl mC_X8_empty mM_L_158 mI_X8_empty mV_X8_empty mN_X8 yd_X8_empty rfl rfl ⟨(Nat.le_of_ble_eq_true rfl), (Nat.le_of_ble_eq_true rfl)⟩ hM1.o rfl rfl rfl rfl (Nat.le_of_ble_eq_true rfl) ⟨by show k + 8 + 0 ≤ 600006; omega, by show q + 64 + 0 ≤ 7302056; omega⟩ (fun _ _ _ z => False.elim z) (fun r2 w2 sz2 _ hP2 => ?_)
  obtain ⟨rfl, tm2, v2, bf2, pa2, lb2, rfl, hJ2, h72, hQ2⟩ := hP2
  obtain ⟨z2, rfl⟩ := cP_r hQ2
  have hall2 : AI g (MW g w1 tm2 v2 bf2 sv pa2 lb2 sg td sm) sz1 n (B + 1) ∧ tm2 0 = k1 ∧ (k1 = 0 → ∃ f, wOf g w1 f ∧ f 0 = Int32.toInt64 z2) := by
    rcases hd1 with ⟨hk9, v9, f9, hL9, ho9, hf9⟩ | ⟨-, E9, hX9, hk9⟩
    · obtain ⟨hr9, hz9, c9, LN9, LF9, hc9, hT9, hA9⟩ := al_empty_y ((xs (nI (i + 1)).toNatClampNeg)) hA hT1 hC.k0 (by omega) h72 hQ2 hL9
      exact ⟨⟨_, _, _, _, _, _, _, _, _, _, _, _, _, _, _, _, _, Nat.le_trans hc9 (by omega), hC1.mw, hT9.mw, MR_MW, hJ2, hA9, ri_empty hRI hQ2, fun h => absurd h (Nat.succ_ne_zero _)⟩, hz9.trans hk9.symm, fun _ => ⟨f9, ho9, hf9.trans (congrArg Int32.toInt64 (Value.int.inj (Option.some.inj hr9)))⟩⟩
    · obtain ⟨hz9, c9, LN9, LF9, hc9, hT9, hA9⟩ := al_empty_n ((xs (nI (i + 1)).toNatClampNeg)) hA hT1 hC.k0 (by omega) h72 hQ2 hX9
      exact ⟨⟨_, _, _, _, _, _, _, _, _, _, _, _, _, _, _, _, _, Nat.le_trans hc9 (by omega), hC1.mw, hT9.mw, MR_MW, hJ2, hA9, ri_empty hRI hQ2, fun h => absurd h (Nat.succ_ne_zero _)⟩, hz9.trans hk9.symm, fun z => absurd (hk9.symm.trans z) (kc_empty hX9)⟩
  refine x_st (st1 := [.int z2]) rfl ?_
  refine x_istore [(7, .int z2), (6, .int k1), (0, .ref b), (1, .ref (g.2 0)), (2, .ref (g.2 0 + 258)), (3, .ref (g.2 0 + 267)), (4, .ref (g.2 0 + 268)), (5, .int (nI i))] 670 C0 dL_law_668 rfl (by decide) rfl ?_
  refine x_aload_n 4 671 C0 dL_law_670 rfl rfl rfl ?_
  refine x_callV 674 C0 (k_X8_thrown l hl g (MW g w1 tm2 v2 bf2 sv pa2 lb2 sg td sm) sz1 n tm2 v2 bf2 sv pa2 lb2 sg td sm MR_MW hJ2) dL_law_671 rfl mC_X8_thrown mM_L_130 mI_X8_thrown mV_X8_thrown mN_X8 yd_X8_thrown rfl rfl ⟨(Nat.le_of_ble_eq_true rfl), (Nat.le_of_ble_eq_true rfl)⟩ MR_MW.o rfl rfl rfl rfl (Nat.le_of_ble_eq_true rfl) ⟨by show k + 8 + 0 + 0 ≤ 600006; omega, by show q + 64 + 0 + 0 ≤ 7302056; omega⟩ (fun _ _ _ z => False.elim z) (fun r3 w3 sz3 _ hP3 => ?_)
  obtain ⟨rfl, rfl, rfl⟩ := hP3
  refine x_st (st1 := [.int (tm2 0)]) rfl ?_
  refine x_iload 1 676 C0 dL_law_674 rfl rfl ?_
  refine x_icmp_eq 681 679 C0 dL_law_676 rfl (by decide) (fun _ => ?_) (fun z => absurd hall2.2.1 z)
  refine x_iload 1 683 C0 dL_law_681 rfl rfl ?_
  refine x_if_ne 698 686 C0 dL_law_683 rfl (by decide) (fun _ => ?_) (fun hk0 => ?_)
  · skip
    refine x_goto 2017 C0 dL_law_698 (by decide) ?_
    exact x_widen (k + 256) (q + 2500) (by omega) (by omega) (x_lv [2, 3, 4, 5, 6, 7] rfl (kk _ _ _ ⟨hall2.1, hO1.mw, hD1.mw⟩))
  · obtain ⟨f9, hf9, hf90⟩ := hall2.2.2 hk0
    refine x_aload_n 5 687 C0 dL_law_686 rfl rfl rfl ?_
    refine x_iconst (v := 0) 688 C0 dL_law_687 rfl (by decide) ?_
    refine x_lald 3 689 C0 dL_law_688 rfl ((MW_ne (by omega)).trans hf9) rfl (by unfold vp_in; decide) ?_
    refine x_st (st1 := [.long (f9 0)]) rfl ?_
    refine x_iload 0 691 C0 dL_law_689 rfl rfl ?_
    refine x_i2l (v := (z2).toInt64) 692 C0 dL_law_691 rfl rfl ?_
    refine x_lcmpE 693 C0 dL_law_692 rfl hf90 ?_
    refine x_if_eq 698 696 C0 dL_law_693 rfl (by decide) (fun _ => ?_) (fun z => absurd rfl z)
    refine x_goto 2017 C0 dL_law_698 (by decide) ?_
    exact x_widen (k + 256) (q + 2500) (by omega) (by omega) (x_lv [2, 3, 4, 5, 6, 7] rfl (kk _ _ _ ⟨hall2.1, hO1.mw, hD1.mw⟩))
set_option maxHeartbeats 4000000 in
set_option maxRecDepth 100000 in
theorem law_c8 (hl : l.stackTraces = false) (C0 : xC p l s m args meth cD g cL_law 9 RL rt tb) (hX : va_X b L xs s s.heap) (hbl : b < s.heap.size) (hbA : ¬ xA g b) (hL : L ≤ 5) (i n k q B : Nat) (hi : i + 5 ≤ L) (hB : B ≤ 512) (hB0 : B = 0) (w : xw_T) (sz : Nat) (hI : LA g w sz n B) (hk : k + 256 ≤ 600006) (hq : q + 2500 ≤ 7302056) (kk : ∀ (w1 : xw_T) (sz1 n1 : Nat), LA g w1 sz1 n1 (B + 1) → xV p l e room_1 s m args below meth cD Q g 9 w1 sz1 (k + 256) (q + 2500) 2017 [(0, .ref b), (1, .ref (g.2 0)), (2, .ref (g.2 0 + 258)), (3, .ref (g.2 0 + 267)), (4, .ref (g.2 0 + 268)), (5, .int (nI i))] []) : xV p l e room_1 s m args below meth cD Q g 9 w sz k q 701 [(0, .ref b), (1, .ref (g.2 0)), (2, .ref (g.2 0 + 258)), (3, .ref (g.2 0 + 267)), (4, .ref (g.2 0 + 268)), (5, .int (nI i))] [] := by
  obtain ⟨⟨x, la, t, tt, vb, sg, LN, LF, tm, v, bf, sv, pa, lb, td, sm, c0, hc0, hC, hT, hM, hJ, hA, hRI, hRR⟩, hO, hD⟩ := hI
  refine x_aload_n 1 702 C0 dL_law_701 rfl rfl rfl ?_
  refine x_aload_n 0 703 C0 dL_law_702 rfl rfl rfl ?_
  refine x_iload 5 705 C0 dL_law_703 rfl rfl ?_
  refine x_iconst (v := 1) 706 C0 dL_law_705 rfl (by decide) ?_
  refine x_iadd 707 C0 dL_law_706 rfl ?_
  refine x_st (st1 := [.int (nI (i + 1)), .ref b, .ref (g.2 0)]) (congrArg (fun z => Value.int z :: _) (nI_add i 1)) ?_
  refine x_sld 708 C0 hX hbl hbA (vp_in_nI (n := i + 1) (by omega) (by omega)) dL_law_707 rfl ?_
  refine x_aload_n 0 709 C0 dL_law_708 rfl rfl rfl ?_
  refine x_iload 5 711 C0 dL_law_709 rfl rfl ?_
  refine x_iconst (v := 2) 712 C0 dL_law_711 rfl (by decide) ?_
  refine x_iadd 713 C0 dL_law_712 rfl ?_
  refine x_st (st1 := [.int (nI (i + 2)), .ref b, .int (xs (nI (i + 1)).toNatClampNeg), .ref (g.2 0)]) (congrArg (fun z => Value.int z :: _) (nI_add i 2)) ?_
  refine x_sld 714 C0 hX hbl hbA (vp_in_nI (n := i + 2) (by omega) (by omega)) dL_law_713 rfl ?_
  refine x_aload_n 3 715 C0 dL_law_714 rfl rfl rfl ?_
  refine x_callSH 718 C0 (e_L_screw l hl g w sz n x la t tt vb sg hC hO ((xs (nI (i + 1)).toNatClampNeg)) ((xs (nI (i + 2)).toNatClampNeg))) dL_law_715 rfl mC_L_screw mM_L_159 mS_L_screw mN_L yd_L_screw rfl rfl ⟨(Nat.le_of_ble_eq_true rfl), (Nat.le_of_ble_eq_true rfl)⟩ rfl rfl (Nat.le_of_ble_eq_true rfl) ⟨by show k + 8 ≤ 600006; omega, by show q + 64 ≤ 7302056; omega⟩ (fun _ _ _ z => False.elim z) (fun r1 w1 sz1 _ hP1 => ?_)
  obtain ⟨k1, x1, la1, t1, rfl, hz1, hF1, hC1, hd1⟩ := hP1
  have hO1 : wO g w1 := by
    rcases hd1 with ⟨-, v9, f9, -, h9, -⟩ | ⟨h9, -⟩
    · exact ⟨f9, h9⟩
    · exact h9
  have hM1 := hM.wf hF1 (Or.inl rfl) hC.zz
  have hT1 := hT.wf hF1 (Or.inl rfl) hz1
  have hD1 := hD.wf hF1 hC.zz
  refine x_st (st1 := [.int k1]) rfl ?_
  refine x_istore [(6, .int k1), (0, .ref b), (1, .ref (g.2 0)), (2, .ref (g.2 0 + 258)), (3, .ref (g.2 0 + 267)), (4, .ref (g.2 0 + 268)), (5, .int (nI i))] 720 C0 dL_law_718 rfl (by decide) rfl ?_
  refine x_aload_n 3 721 C0 dL_law_720 rfl rfl rfl ?_
  refine x_aload_n 1 722 C0 dL_law_721 rfl rfl rfl ?_
  refine x_iload 6 724 C0 dL_law_722 rfl rfl ?_
  refine x_iconst (v := 1) 725 C0 dL_law_724 rfl (by decide) ?_
  refine x_iadd 726 C0 dL_law_725 rfl ?_
  refine x_st (st1 := [.int (nI (i + 1)), .ref b, .ref (g.2 0 + 258)]) (congrArg (fun z => Value.int z :: _) (nI_add i 1)) ?_
  refine x_sld 727 C0 hX hbl hbA (vp_in_nI (n := i + 1) (by omega) (by omega)) dL_law_726 rfl ?_
  refine x_aload_n 1 728 C0 dL_law_727 rfl rfl rfl ?_
  refine x_iload 6 730 C0 dL_law_728 rfl rfl ?_
  refine x_iconst (v := 2) 731 C0 dL_law_730 rfl (by decide) ?_
  refine x_iadd 732 C0 dL_law_731 rfl ?_
  refine x_st (st1 := [.int (nI (i + 2)), .ref b, .int (xs (nI (i + 1)).toNatClampNeg), .ref (g.2 0 + 258)]) (congrArg (fun z => Value.int z :: _) (nI_add i 2)) ?_
  refine x_sld 733 C0 hX hbl hbA (vp_in_nI (n := i + 2) (by omega) (by omega)) dL_law_732 rfl ?_
  refine x_callV 736 C0 (k_X8_screw l hl g w1 sz1 n tm v bf sv pa lb sg td sm hM1 hJ ((xs (nI (i + 1)).toNatClampNeg)) ((xs (nI (i + 2)).toNatClampNeg))) dL_law_733 rfl mC_X8_screw mM_L_161 mI_X8_screw mV_X8_screw mN_X8 yd_X8_screw rfl rfl ⟨(Nat.le_of_ble_eq_true rfl), (Nat.le_of_ble_eq_true rfl)⟩ hM1.o rfl rfl rfl rfl (Nat.le_of_ble_eq_true rfl) ⟨by show k + 8 + 0 ≤ 600006; omega, by show q + 64 + 0 ≤ 7302056; omega⟩ (fun _ _ _ z => False.elim z) (fun r2 w2 sz2 _ hP2 => ?_)
  obtain ⟨rfl, tm2, v2, bf2, pa2, lb2, rfl, hJ2, h72, hQ2⟩ := hP2
  obtain ⟨z02, hs2, hQ2⟩ := hQ2
  obtain ⟨z2, rfl⟩ : ∃ z : Int32, r2 = some (.int z) := hs2.elim (fun z => ⟨1, z.2⟩) (fun z => ⟨0, z.2⟩)
  have hall2 : AI g (MW g w1 tm2 v2 bf2 sv pa2 lb2 sg td sm) sz1 n (B + 1) ∧ tm2 0 = k1 ∧ (k1 = 0 → ∃ f, wOf g w1 f ∧ f 0 = cvB z2) := by
    rcases hd1 with ⟨hk9, v9, f9, hL9, ho9, hf9⟩ | ⟨-, E9, hX9, hk9⟩
    · obtain ⟨hr9, hz9, c9, LN9, LF9, hc9, hT9, hA9⟩ := al9_screw_y ((xs (nI (i + 1)).toNatClampNeg)) ((xs (nI (i + 2)).toNatClampNeg)) hA hT1 hC.k0 (by omega) h72 hQ2 hL9
      exact ⟨⟨_, _, _, _, _, _, _, _, _, _, _, _, _, _, _, _, _, Nat.le_trans hc9 (by omega), hC1.mw, hT9.mw, MR_MW, hJ2, hA9, ri_screw hRI hQ2, fun h => absurd h (Nat.succ_ne_zero _)⟩, hz9.trans hk9.symm, fun _ => ⟨f9, ho9, hf9.trans (cvB_z hs2 hr9 (l9_screw_b hL9))⟩⟩
    · obtain ⟨hz9, c9, LN9, LF9, hc9, hT9, hA9⟩ := al_screw_n ((xs (nI (i + 1)).toNatClampNeg)) ((xs (nI (i + 2)).toNatClampNeg)) hA hT1 hC.k0 (by omega) h72 hQ2 hX9
      exact ⟨⟨_, _, _, _, _, _, _, _, _, _, _, _, _, _, _, _, _, Nat.le_trans hc9 (by omega), hC1.mw, hT9.mw, MR_MW, hJ2, hA9, ri_screw hRI hQ2, fun h => absurd h (Nat.succ_ne_zero _)⟩, hz9.trans hk9.symm, fun z => absurd (hk9.symm.trans z) (kc_screw hX9)⟩
  refine x_st (st1 := [.int z2]) rfl ?_
  refine x_istore [(7, .int z2), (6, .int k1), (0, .ref b), (1, .ref (g.2 0)), (2, .ref (g.2 0 + 258)), (3, .ref (g.2 0 + 267)), (4, .ref (g.2 0 + 268)), (5, .int (nI i))] 738 C0 dL_law_736 rfl (by decide) rfl ?_
  refine x_aload_n 4 739 C0 dL_law_738 rfl rfl rfl ?_
  refine x_callV 742 C0 (k_X8_thrown l hl g (MW g w1 tm2 v2 bf2 sv pa2 lb2 sg td sm) sz1 n tm2 v2 bf2 sv pa2 lb2 sg td sm MR_MW hJ2) dL_law_739 rfl mC_X8_thrown mM_L_130 mI_X8_thrown mV_X8_thrown mN_X8 yd_X8_thrown rfl rfl ⟨(Nat.le_of_ble_eq_true rfl), (Nat.le_of_ble_eq_true rfl)⟩ MR_MW.o rfl rfl rfl rfl (Nat.le_of_ble_eq_true rfl) ⟨by show k + 8 + 0 + 0 ≤ 600006; omega, by show q + 64 + 0 + 0 ≤ 7302056; omega⟩ (fun _ _ _ z => False.elim z) (fun r3 w3 sz3 _ hP3 => ?_)
  obtain ⟨rfl, rfl, rfl⟩ := hP3
  refine x_st (st1 := [.int (tm2 0)]) rfl ?_
  refine x_iload 1 744 C0 dL_law_742 rfl rfl ?_
  refine x_icmp_eq 749 747 C0 dL_law_744 rfl (by decide) (fun _ => ?_) (fun z => absurd hall2.2.1 z)
  refine x_iload 1 751 C0 dL_law_749 rfl rfl ?_
  refine x_if_ne 773 754 C0 dL_law_751 rfl (by decide) (fun _ => ?_) (fun hk0 => ?_)
  · skip
    refine x_goto 2017 C0 dL_law_773 (by decide) ?_
    exact x_widen (k + 256) (q + 2500) (by omega) (by omega) (x_lv [2, 3, 4, 5, 6, 7] rfl (kk _ _ _ ⟨hall2.1, hO1.mw, hD1.mw⟩))
  · obtain ⟨f9, hf9, hf90⟩ := hall2.2.2 hk0
    refine x_aload_n 5 755 C0 dL_law_754 rfl rfl rfl ?_
    refine x_iconst (v := 0) 756 C0 dL_law_755 rfl (by decide) ?_
    refine x_lald 3 757 C0 dL_law_756 rfl ((MW_ne (by omega)).trans hf9) rfl (by unfold vp_in; decide) ?_
    refine x_st (st1 := [.long (f9 0)]) rfl ?_
    refine x_iload 0 759 C0 dL_law_757 rfl rfl ?_
    refine x_if_eq 766 762 C0 dL_law_759 rfl (by decide) (fun hb4 => ?_) (fun hb4 => ?_)
    · refine x_lconst (v := 0) 767 C0 dL_law_766 rfl (by decide) ?_
      refine x_lcmpE 768 C0 dL_law_767 rfl (hf90.trans (show cvB z2 = 0 from if_pos hb4)) ?_
      refine x_if_eq 773 771 C0 dL_law_768 rfl (by decide) (fun _ => ?_) (fun z => absurd rfl z)
      refine x_goto 2017 C0 dL_law_773 (by decide) ?_
      exact x_widen (k + 256) (q + 2500) (by omega) (by omega) (x_lv [2, 3, 4, 5, 6, 7] rfl (kk _ _ _ ⟨hall2.1, hO1.mw, hD1.mw⟩))
    · refine x_lconst (v := 1) 763 C0 dL_law_762 rfl (by decide) ?_
      refine x_goto 767 C0 dL_law_763 (by decide) ?_
      refine x_lcmpE 768 C0 dL_law_767 rfl (hf90.trans (show cvB z2 = 1 from if_neg hb4)) ?_
      refine x_if_eq 773 771 C0 dL_law_768 rfl (by decide) (fun _ => ?_) (fun z => absurd rfl z)
      refine x_goto 2017 C0 dL_law_773 (by decide) ?_
      exact x_widen (k + 256) (q + 2500) (by omega) (by omega) (x_lv [2, 3, 4, 5, 6, 7] rfl (kk _ _ _ ⟨hall2.1, hO1.mw, hD1.mw⟩))
set_option maxHeartbeats 4000000 in
set_option maxRecDepth 100000 in
theorem law_c9 (hl : l.stackTraces = false) (C0 : xC p l s m args meth cD g cL_law 9 RL rt tb) (hX : va_X b L xs s s.heap) (hbl : b < s.heap.size) (hbA : ¬ xA g b) (hL : L ≤ 5) (i n k q B : Nat) (hi : i + 5 ≤ L) (hB : B ≤ 512) (hB0 : B = 0) (w : xw_T) (sz : Nat) (hI : LA g w sz n B) (hk : k + 256 ≤ 600006) (hq : q + 2500 ≤ 7302056) (kk : ∀ (w1 : xw_T) (sz1 n1 : Nat), LA g w1 sz1 n1 (B + 1) → xV p l e room_1 s m args below meth cD Q g 9 w1 sz1 (k + 256) (q + 2500) 2017 [(0, .ref b), (1, .ref (g.2 0)), (2, .ref (g.2 0 + 258)), (3, .ref (g.2 0 + 267)), (4, .ref (g.2 0 + 268)), (5, .int (nI i))] []) : xV p l e room_1 s m args below meth cD Q g 9 w sz k q 776 [(0, .ref b), (1, .ref (g.2 0)), (2, .ref (g.2 0 + 258)), (3, .ref (g.2 0 + 267)), (4, .ref (g.2 0 + 268)), (5, .int (nI i))] [] := by
  obtain ⟨⟨x, la, t, tt, vb, sg, LN, LF, tm, v, bf, sv, pa, lb, td, sm, c0, hc0, hC, hT, hM, hJ, hA, hRI, hRR⟩, hO, hD⟩ := hI
  refine x_aload_n 1 777 C0 dL_law_776 rfl rfl rfl ?_
  refine x_aload_n 0 778 C0 dL_law_777 rfl rfl rfl ?_
  refine x_iload 5 780 C0 dL_law_778 rfl rfl ?_
  refine x_iconst (v := 1) 781 C0 dL_law_780 rfl (by decide) ?_
  refine x_iadd 782 C0 dL_law_781 rfl ?_
  refine x_st (st1 := [.int (nI (i + 1)), .ref b, .ref (g.2 0)]) (congrArg (fun z => Value.int z :: _) (nI_add i 1)) ?_
  refine x_sld 783 C0 hX hbl hbA (vp_in_nI (n := i + 1) (by omega) (by omega)) dL_law_782 rfl ?_
  refine x_aload_n 3 784 C0 dL_law_783 rfl rfl rfl ?_
  refine x_callSH 787 C0 (e_L_unscrew l hl g w sz n x la t tt vb sg hC hO ((xs (nI (i + 1)).toNatClampNeg))) dL_law_784 rfl mC_L_unscrew mM_L_162 mS_L_unscrew mN_L yd_L_unscrew rfl rfl ⟨(Nat.le_of_ble_eq_true rfl), (Nat.le_of_ble_eq_true rfl)⟩ rfl rfl (Nat.le_of_ble_eq_true rfl) ⟨by show k + 8 ≤ 600006; omega, by show q + 64 ≤ 7302056; omega⟩ (fun _ _ _ z => False.elim z) (fun r1 w1 sz1 _ hP1 => ?_)
  obtain ⟨k1, x1, la1, t1, rfl, hz1, hF1, hC1, hd1⟩ := hP1
  have hO1 : wO g w1 := by
    rcases hd1 with ⟨-, v9, f9, -, h9, -⟩ | ⟨h9, -⟩
    · exact ⟨f9, h9⟩
    · exact h9
  have hM1 := hM.wf hF1 (Or.inl rfl) hC.zz
  have hT1 := hT.wf hF1 (Or.inl rfl) hz1
  have hD1 := hD.wf hF1 hC.zz
  refine x_st (st1 := [.int k1]) rfl ?_
  refine x_istore [(6, .int k1), (0, .ref b), (1, .ref (g.2 0)), (2, .ref (g.2 0 + 258)), (3, .ref (g.2 0 + 267)), (4, .ref (g.2 0 + 268)), (5, .int (nI i))] 789 C0 dL_law_787 rfl (by decide) rfl ?_
  refine x_aload_n 3 790 C0 dL_law_789 rfl rfl rfl ?_
  refine x_aload_n 1 791 C0 dL_law_790 rfl rfl rfl ?_
  refine x_iload 6 793 C0 dL_law_791 rfl rfl ?_
  refine x_iconst (v := 1) 794 C0 dL_law_793 rfl (by decide) ?_
  refine x_iadd 795 C0 dL_law_794 rfl ?_
  refine x_st (st1 := [.int (nI (i + 1)), .ref b, .ref (g.2 0 + 258)]) (congrArg (fun z => Value.int z :: _) (nI_add i 1)) ?_
  refine x_sld 796 C0 hX hbl hbA (vp_in_nI (n := i + 1) (by omega) (by omega)) dL_law_795 rfl ?_
  refine x_callV 799 C0 (k_X8_unscrew l hl g w1 sz1 n tm v bf sv pa lb sg td sm hM1 hJ ((xs (nI (i + 1)).toNatClampNeg))) dL_law_796 rfl mC_X8_unscrew mM_L_164 mI_X8_unscrew mV_X8_unscrew mN_X8 yd_X8_unscrew rfl rfl ⟨(Nat.le_of_ble_eq_true rfl), (Nat.le_of_ble_eq_true rfl)⟩ hM1.o rfl rfl rfl rfl (Nat.le_of_ble_eq_true rfl) ⟨by show k + 8 + 0 ≤ 600006; omega, by show q + 64 + 0 ≤ 7302056; omega⟩ (fun _ _ _ z => False.elim z) (fun r2 w2 sz2 _ hP2 => ?_)
  obtain ⟨rfl, tm2, v2, bf2, pa2, lb2, rfl, hJ2, h72, hQ2⟩ := hP2
  obtain ⟨z2, rfl⟩ := cP_r hQ2
  have hall2 : AI g (MW g w1 tm2 v2 bf2 sv pa2 lb2 sg td sm) sz1 n (B + 1) ∧ tm2 0 = k1 ∧ (k1 = 0 → ∃ f, wOf g w1 f ∧ f 0 = Int32.toInt64 z2) := by
    rcases hd1 with ⟨hk9, v9, f9, hL9, ho9, hf9⟩ | ⟨-, E9, hX9, hk9⟩
    · obtain ⟨hr9, hz9, c9, LN9, LF9, hc9, hT9, hA9⟩ := al_unscrew_y ((xs (nI (i + 1)).toNatClampNeg)) hA hT1 hC.k0 (by omega) h72 hQ2 hL9
      exact ⟨⟨_, _, _, _, _, _, _, _, _, _, _, _, _, _, _, _, _, Nat.le_trans hc9 (by omega), hC1.mw, hT9.mw, MR_MW, hJ2, hA9, ri_unscrew hRI hQ2, fun h => absurd h (Nat.succ_ne_zero _)⟩, hz9.trans hk9.symm, fun _ => ⟨f9, ho9, hf9.trans (congrArg Int32.toInt64 (Value.int.inj (Option.some.inj hr9)))⟩⟩
    · obtain ⟨hz9, c9, LN9, LF9, hc9, hT9, hA9⟩ := al_unscrew_n ((xs (nI (i + 1)).toNatClampNeg)) hA hT1 hC.k0 (by omega) h72 hQ2 hX9
      exact ⟨⟨_, _, _, _, _, _, _, _, _, _, _, _, _, _, _, _, _, Nat.le_trans hc9 (by omega), hC1.mw, hT9.mw, MR_MW, hJ2, hA9, ri_unscrew hRI hQ2, fun h => absurd h (Nat.succ_ne_zero _)⟩, hz9.trans hk9.symm, fun z => absurd (hk9.symm.trans z) (kc_unscrew hX9)⟩
  refine x_st (st1 := [.int z2]) rfl ?_
  refine x_istore [(7, .int z2), (6, .int k1), (0, .ref b), (1, .ref (g.2 0)), (2, .ref (g.2 0 + 258)), (3, .ref (g.2 0 + 267)), (4, .ref (g.2 0 + 268)), (5, .int (nI i))] 801 C0 dL_law_799 rfl (by decide) rfl ?_
  refine x_aload_n 4 802 C0 dL_law_801 rfl rfl rfl ?_
  refine x_callV 805 C0 (k_X8_thrown l hl g (MW g w1 tm2 v2 bf2 sv pa2 lb2 sg td sm) sz1 n tm2 v2 bf2 sv pa2 lb2 sg td sm MR_MW hJ2) dL_law_802 rfl mC_X8_thrown mM_L_130 mI_X8_thrown mV_X8_thrown mN_X8 yd_X8_thrown rfl rfl ⟨(Nat.le_of_ble_eq_true rfl), (Nat.le_of_ble_eq_true rfl)⟩ MR_MW.o rfl rfl rfl rfl (Nat.le_of_ble_eq_true rfl) ⟨by show k + 8 + 0 + 0 ≤ 600006; omega, by show q + 64 + 0 + 0 ≤ 7302056; omega⟩ (fun _ _ _ z => False.elim z) (fun r3 w3 sz3 _ hP3 => ?_)
  obtain ⟨rfl, rfl, rfl⟩ := hP3
  refine x_st (st1 := [.int (tm2 0)]) rfl ?_
  refine x_iload 1 807 C0 dL_law_805 rfl rfl ?_
  refine x_icmp_eq 812 810 C0 dL_law_807 rfl (by decide) (fun _ => ?_) (fun z => absurd hall2.2.1 z)
  refine x_iload 1 814 C0 dL_law_812 rfl rfl ?_
  refine x_if_ne 829 817 C0 dL_law_814 rfl (by decide) (fun _ => ?_) (fun hk0 => ?_)
  · skip
    refine x_goto 2017 C0 dL_law_829 (by decide) ?_
    exact x_widen (k + 256) (q + 2500) (by omega) (by omega) (x_lv [2, 3, 4, 5, 6, 7] rfl (kk _ _ _ ⟨hall2.1, hO1.mw, hD1.mw⟩))
  · obtain ⟨f9, hf9, hf90⟩ := hall2.2.2 hk0
    refine x_aload_n 5 818 C0 dL_law_817 rfl rfl rfl ?_
    refine x_iconst (v := 0) 819 C0 dL_law_818 rfl (by decide) ?_
    refine x_lald 3 820 C0 dL_law_819 rfl ((MW_ne (by omega)).trans hf9) rfl (by unfold vp_in; decide) ?_
    refine x_st (st1 := [.long (f9 0)]) rfl ?_
    refine x_iload 0 822 C0 dL_law_820 rfl rfl ?_
    refine x_i2l (v := (z2).toInt64) 823 C0 dL_law_822 rfl rfl ?_
    refine x_lcmpE 824 C0 dL_law_823 rfl hf90 ?_
    refine x_if_eq 829 827 C0 dL_law_824 rfl (by decide) (fun _ => ?_) (fun z => absurd rfl z)
    refine x_goto 2017 C0 dL_law_829 (by decide) ?_
    exact x_widen (k + 256) (q + 2500) (by omega) (by omega) (x_lv [2, 3, 4, 5, 6, 7] rfl (kk _ _ _ ⟨hall2.1, hO1.mw, hD1.mw⟩))
set_option maxHeartbeats 4000000 in
set_option maxRecDepth 100000 in
theorem law_c10 (hl : l.stackTraces = false) (C0 : xC p l s m args meth cD g cL_law 9 RL rt tb) (hX : va_X b L xs s s.heap) (hbl : b < s.heap.size) (hbA : ¬ xA g b) (hL : L ≤ 5) (i n k q B : Nat) (hi : i + 5 ≤ L) (hB : B ≤ 512) (hB0 : B = 0) (w : xw_T) (sz : Nat) (hI : LA g w sz n B) (hk : k + 256 ≤ 600006) (hq : q + 2500 ≤ 7302056) (kk : ∀ (w1 : xw_T) (sz1 n1 : Nat), LA g w1 sz1 n1 (B + 1) → xV p l e room_1 s m args below meth cD Q g 9 w1 sz1 (k + 256) (q + 2500) 2017 [(0, .ref b), (1, .ref (g.2 0)), (2, .ref (g.2 0 + 258)), (3, .ref (g.2 0 + 267)), (4, .ref (g.2 0 + 268)), (5, .int (nI i))] []) : xV p l e room_1 s m args below meth cD Q g 9 w sz k q 832 [(0, .ref b), (1, .ref (g.2 0)), (2, .ref (g.2 0 + 258)), (3, .ref (g.2 0 + 267)), (4, .ref (g.2 0 + 268)), (5, .int (nI i))] [] := by
  obtain ⟨⟨x, la, t, tt, vb, sg, LN, LF, tm, v, bf, sv, pa, lb, td, sm, c0, hc0, hC, hT, hM, hJ, hA, hRI, hRR⟩, hO, hD⟩ := hI
  refine x_aload_n 1 833 C0 dL_law_832 rfl rfl rfl ?_
  refine x_aload_n 0 834 C0 dL_law_833 rfl rfl rfl ?_
  refine x_iload 5 836 C0 dL_law_834 rfl rfl ?_
  refine x_iconst (v := 1) 837 C0 dL_law_836 rfl (by decide) ?_
  refine x_iadd 838 C0 dL_law_837 rfl ?_
  refine x_st (st1 := [.int (nI (i + 1)), .ref b, .ref (g.2 0)]) (congrArg (fun z => Value.int z :: _) (nI_add i 1)) ?_
  refine x_sld 839 C0 hX hbl hbA (vp_in_nI (n := i + 1) (by omega) (by omega)) dL_law_838 rfl ?_
  refine x_aload_n 3 840 C0 dL_law_839 rfl rfl rfl ?_
  refine x_callSH 843 C0 (e_L_label l hl g w sz n x la t tt vb sg hC hO ((xs (nI (i + 1)).toNatClampNeg))) dL_law_840 rfl mC_L_label mM_L_165 mS_L_label mN_L yd_L_label rfl rfl ⟨(Nat.le_of_ble_eq_true rfl), (Nat.le_of_ble_eq_true rfl)⟩ rfl rfl (Nat.le_of_ble_eq_true rfl) ⟨by show k + 8 ≤ 600006; omega, by show q + 64 ≤ 7302056; omega⟩ (fun _ _ _ z => False.elim z) (fun r1 w1 sz1 _ hP1 => ?_)
  obtain ⟨k1, x1, la1, t1, rfl, hz1, hF1, hC1, hd1⟩ := hP1
  have hO1 : wO g w1 := by
    rcases hd1 with ⟨-, v9, f9, -, h9, -⟩ | ⟨h9, -⟩
    · exact ⟨f9, h9⟩
    · exact h9
  have hM1 := hM.wf hF1 (Or.inl rfl) hC.zz
  have hT1 := hT.wf hF1 (Or.inl rfl) hz1
  have hD1 := hD.wf hF1 hC.zz
  refine x_st (st1 := [.int k1]) rfl ?_
  refine x_istore [(6, .int k1), (0, .ref b), (1, .ref (g.2 0)), (2, .ref (g.2 0 + 258)), (3, .ref (g.2 0 + 267)), (4, .ref (g.2 0 + 268)), (5, .int (nI i))] 845 C0 dL_law_843 rfl (by decide) rfl ?_
  refine x_aload_n 3 846 C0 dL_law_845 rfl rfl rfl ?_
  refine x_aload_n 1 847 C0 dL_law_846 rfl rfl rfl ?_
  refine x_iload 6 849 C0 dL_law_847 rfl rfl ?_
  refine x_iconst (v := 1) 850 C0 dL_law_849 rfl (by decide) ?_
  refine x_iadd 851 C0 dL_law_850 rfl ?_
  refine x_st (st1 := [.int (nI (i + 1)), .ref b, .ref (g.2 0 + 258)]) (congrArg (fun z => Value.int z :: _) (nI_add i 1)) ?_
  refine x_sld 852 C0 hX hbl hbA (vp_in_nI (n := i + 1) (by omega) (by omega)) dL_law_851 rfl ?_
  refine x_callV 855 C0 (e_X8_label l hl g w1 sz1 n tm v bf sv pa lb sg td sm hM1 hJ ((xs (nI (i + 1)).toNatClampNeg))) dL_law_852 rfl mC_X8_label mM_L_167 mI_X8_label mV_X8_label mN_X8 yd_X8_label rfl rfl ⟨(Nat.le_of_ble_eq_true rfl), (Nat.le_of_ble_eq_true rfl)⟩ hM1.o rfl rfl rfl rfl (Nat.le_of_ble_eq_true rfl) ⟨by show k + 8 + 0 ≤ 600006; omega, by show q + 64 + 0 ≤ 7302056; omega⟩ (fun _ _ _ z => False.elim z) (fun r2 w2 sz2 _ hP2 => ?_)
  obtain ⟨rfl, tm2, v2, bf2, pa2, lb2, rfl, hJ2, h72, hQ2⟩ := hP2
  obtain ⟨z2, rfl⟩ := cP_r hQ2
  have hall2 : AI g (MW g w1 tm2 v2 bf2 sv pa2 lb2 sg td sm) sz1 n (B + 1) ∧ tm2 0 = k1 ∧ (k1 = 0 → ∃ f, wOf g w1 f ∧ f 0 = Int32.toInt64 z2) := by
    rcases hd1 with ⟨hk9, v9, f9, hL9, ho9, hf9⟩ | ⟨-, E9, hX9, hk9⟩
    · obtain ⟨hr9, hz9, c9, LN9, LF9, hc9, hT9, hA9⟩ := al9_label_y ((xs (nI (i + 1)).toNatClampNeg)) hA hT1 hC.k0 (by omega) h72 hQ2 hL9
      exact ⟨⟨_, _, _, _, _, _, _, _, _, _, _, _, _, _, _, _, _, Nat.le_trans hc9 (by omega), hC1.mw, hT9.mw, MR_MW, hJ2, hA9, ri_label hRI (cP_w hQ2 (fun _ _ _ => R9_labels_w)), fun h => absurd h (Nat.succ_ne_zero _)⟩, hz9.trans hk9.symm, fun _ => ⟨f9, ho9, hf9.trans (congrArg Int32.toInt64 (Value.int.inj (Option.some.inj hr9)))⟩⟩
    · obtain ⟨hz9, c9, LN9, LF9, hc9, hT9, hA9⟩ := al_label_n ((xs (nI (i + 1)).toNatClampNeg)) hA hT1 hC.k0 (by omega) h72 (cP_w hQ2 (fun _ _ _ => R9_labels_w)) hX9
      exact ⟨⟨_, _, _, _, _, _, _, _, _, _, _, _, _, _, _, _, _, Nat.le_trans hc9 (by omega), hC1.mw, hT9.mw, MR_MW, hJ2, hA9, ri_label hRI (cP_w hQ2 (fun _ _ _ => R9_labels_w)), fun h => absurd h (Nat.succ_ne_zero _)⟩, hz9.trans hk9.symm, fun z => absurd (hk9.symm.trans z) (kc_label hX9)⟩
  refine x_st (st1 := [.int z2]) rfl ?_
  refine x_istore [(7, .int z2), (6, .int k1), (0, .ref b), (1, .ref (g.2 0)), (2, .ref (g.2 0 + 258)), (3, .ref (g.2 0 + 267)), (4, .ref (g.2 0 + 268)), (5, .int (nI i))] 857 C0 dL_law_855 rfl (by decide) rfl ?_
  refine x_aload_n 4 858 C0 dL_law_857 rfl rfl rfl ?_
  refine x_callV 861 C0 (k_X8_thrown l hl g (MW g w1 tm2 v2 bf2 sv pa2 lb2 sg td sm) sz1 n tm2 v2 bf2 sv pa2 lb2 sg td sm MR_MW hJ2) dL_law_858 rfl mC_X8_thrown mM_L_130 mI_X8_thrown mV_X8_thrown mN_X8 yd_X8_thrown rfl rfl ⟨(Nat.le_of_ble_eq_true rfl), (Nat.le_of_ble_eq_true rfl)⟩ MR_MW.o rfl rfl rfl rfl (Nat.le_of_ble_eq_true rfl) ⟨by show k + 8 + 0 + 0 ≤ 600006; omega, by show q + 64 + 0 + 0 ≤ 7302056; omega⟩ (fun _ _ _ z => False.elim z) (fun r3 w3 sz3 _ hP3 => ?_)
  obtain ⟨rfl, rfl, rfl⟩ := hP3
  refine x_st (st1 := [.int (tm2 0)]) rfl ?_
  refine x_iload 1 863 C0 dL_law_861 rfl rfl ?_
  refine x_icmp_eq 868 866 C0 dL_law_863 rfl (by decide) (fun _ => ?_) (fun z => absurd hall2.2.1 z)
  refine x_iload 1 870 C0 dL_law_868 rfl rfl ?_
  refine x_if_ne 885 873 C0 dL_law_870 rfl (by decide) (fun _ => ?_) (fun hk0 => ?_)
  · skip
    refine x_goto 2017 C0 dL_law_885 (by decide) ?_
    exact x_widen (k + 256) (q + 2500) (by omega) (by omega) (x_lv [2, 3, 4, 5, 6, 7] rfl (kk _ _ _ ⟨hall2.1, hO1.mw, hD1.mw⟩))
  · obtain ⟨f9, hf9, hf90⟩ := hall2.2.2 hk0
    refine x_aload_n 5 874 C0 dL_law_873 rfl rfl rfl ?_
    refine x_iconst (v := 0) 875 C0 dL_law_874 rfl (by decide) ?_
    refine x_lald 3 876 C0 dL_law_875 rfl ((MW_ne (by omega)).trans hf9) rfl (by unfold vp_in; decide) ?_
    refine x_st (st1 := [.long (f9 0)]) rfl ?_
    refine x_iload 0 878 C0 dL_law_876 rfl rfl ?_
    refine x_i2l (v := (z2).toInt64) 879 C0 dL_law_878 rfl rfl ?_
    refine x_lcmpE 880 C0 dL_law_879 rfl hf90 ?_
    refine x_if_eq 885 883 C0 dL_law_880 rfl (by decide) (fun _ => ?_) (fun z => absurd rfl z)
    refine x_goto 2017 C0 dL_law_885 (by decide) ?_
    exact x_widen (k + 256) (q + 2500) (by omega) (by omega) (x_lv [2, 3, 4, 5, 6, 7] rfl (kk _ _ _ ⟨hall2.1, hO1.mw, hD1.mw⟩))
set_option maxHeartbeats 4000000 in
set_option maxRecDepth 100000 in
theorem law_c11 (hl : l.stackTraces = false) (C0 : xC p l s m args meth cD g cL_law 9 RL rt tb) (hX : va_X b L xs s s.heap) (hbl : b < s.heap.size) (hbA : ¬ xA g b) (hL : L ≤ 5) (i n k q B : Nat) (hi : i + 5 ≤ L) (hB : B ≤ 512) (hB0 : B = 0) (w : xw_T) (sz : Nat) (hI : LA g w sz n B) (hk : k + 256 ≤ 600006) (hq : q + 2500 ≤ 7302056) (kk : ∀ (w1 : xw_T) (sz1 n1 : Nat), LA g w1 sz1 n1 (B + 1) → xV p l e room_1 s m args below meth cD Q g 9 w1 sz1 (k + 256) (q + 2500) 2017 [(0, .ref b), (1, .ref (g.2 0)), (2, .ref (g.2 0 + 258)), (3, .ref (g.2 0 + 267)), (4, .ref (g.2 0 + 268)), (5, .int (nI i))] []) : xV p l e room_1 s m args below meth cD Q g 9 w sz k q 888 [(0, .ref b), (1, .ref (g.2 0)), (2, .ref (g.2 0 + 258)), (3, .ref (g.2 0 + 267)), (4, .ref (g.2 0 + 268)), (5, .int (nI i))] [] := by
  obtain ⟨⟨x, la, t, tt, vb, sg, LN, LF, tm, v, bf, sv, pa, lb, td, sm, c0, hc0, hC, hT, hM, hJ, hA, hRI, hRR⟩, hO, hD⟩ := hI
  refine x_aload_n 1 889 C0 dL_law_888 rfl rfl rfl ?_
  refine x_aload_n 0 890 C0 dL_law_889 rfl rfl rfl ?_
  refine x_iload 5 892 C0 dL_law_890 rfl rfl ?_
  refine x_iconst (v := 1) 893 C0 dL_law_892 rfl (by decide) ?_
  refine x_iadd 894 C0 dL_law_893 rfl ?_
  refine x_st (st1 := [.int (nI (i + 1)), .ref b, .ref (g.2 0)]) (congrArg (fun z => Value.int z :: _) (nI_add i 1)) ?_
  refine x_sld 895 C0 hX hbl hbA (vp_in_nI (n := i + 1) (by omega) (by omega)) dL_law_894 rfl ?_
  refine x_aload_n 0 896 C0 dL_law_895 rfl rfl rfl ?_
  refine x_iload 5 898 C0 dL_law_896 rfl rfl ?_
  refine x_iconst (v := 2) 899 C0 dL_law_898 rfl (by decide) ?_
  refine x_iadd 900 C0 dL_law_899 rfl ?_
  refine x_st (st1 := [.int (nI (i + 2)), .ref b, .int (xs (nI (i + 1)).toNatClampNeg), .ref (g.2 0)]) (congrArg (fun z => Value.int z :: _) (nI_add i 2)) ?_
  refine x_sld 901 C0 hX hbl hbA (vp_in_nI (n := i + 2) (by omega) (by omega)) dL_law_900 rfl ?_
  refine x_aload_n 3 902 C0 dL_law_901 rfl rfl rfl ?_
  refine x_callSH 905 C0 (e_L_labelled l hl g w sz n x la t tt vb sg hC (LN 0) (LF 0) (hT 0 (by omega)) (lbl_ch hA.1 hC.k0) hO ((xs (nI (i + 1)).toNatClampNeg)) ((xs (nI (i + 2)).toNatClampNeg))) dL_law_902 rfl mC_L_labelled mM_L_168 mS_L_labelled mN_L yd_L_labelled rfl rfl ⟨(Nat.le_of_ble_eq_true rfl), (Nat.le_of_ble_eq_true rfl)⟩ rfl rfl (Nat.le_of_ble_eq_true rfl) ⟨by show k + 8 ≤ 600006; omega, by show q + 64 ≤ 7302056; omega⟩ (fun _ _ _ z => False.elim z) (fun r1 w1 sz1 _ hP1 => ?_)
  obtain ⟨k1, x1, la1, t1, rfl, hz1, hF1, hC1, hd1⟩ := hP1
  have hO1 : wO g w1 := by
    rcases hd1 with ⟨-, v9, f9, -, h9, -⟩ | ⟨h9, -⟩
    · exact ⟨f9, h9⟩
    · exact h9
  have hM1 := hM.wf hF1 (Or.inl rfl) hC.zz
  have hT1 := hT.wf hF1 (Or.inl rfl) hz1
  have hD1 := hD.wf hF1 hC.zz
  refine x_st (st1 := [.int k1]) rfl ?_
  refine x_istore [(6, .int k1), (0, .ref b), (1, .ref (g.2 0)), (2, .ref (g.2 0 + 258)), (3, .ref (g.2 0 + 267)), (4, .ref (g.2 0 + 268)), (5, .int (nI i))] 907 C0 dL_law_905 rfl (by decide) rfl ?_
  refine x_aload_n 3 908 C0 dL_law_907 rfl rfl rfl ?_
  refine x_aload_n 1 909 C0 dL_law_908 rfl rfl rfl ?_
  refine x_iload 6 911 C0 dL_law_909 rfl rfl ?_
  refine x_iconst (v := 1) 912 C0 dL_law_911 rfl (by decide) ?_
  refine x_iadd 913 C0 dL_law_912 rfl ?_
  refine x_st (st1 := [.int (nI (i + 1)), .ref b, .ref (g.2 0 + 258)]) (congrArg (fun z => Value.int z :: _) (nI_add i 1)) ?_
  refine x_sld 914 C0 hX hbl hbA (vp_in_nI (n := i + 1) (by omega) (by omega)) dL_law_913 rfl ?_
  refine x_aload_n 1 915 C0 dL_law_914 rfl rfl rfl ?_
  refine x_iload 6 917 C0 dL_law_915 rfl rfl ?_
  refine x_iconst (v := 2) 918 C0 dL_law_917 rfl (by decide) ?_
  refine x_iadd 919 C0 dL_law_918 rfl ?_
  refine x_st (st1 := [.int (nI (i + 2)), .ref b, .int (xs (nI (i + 1)).toNatClampNeg), .ref (g.2 0 + 258)]) (congrArg (fun z => Value.int z :: _) (nI_add i 2)) ?_
  refine x_sld 920 C0 hX hbl hbA (vp_in_nI (n := i + 2) (by omega) (by omega)) dL_law_919 rfl ?_
  refine x_callV 923 C0 (e_X8_labelled l hl g w1 sz1 n tm v bf sv pa lb sg td sm hM1 hJ ((xs (nI (i + 1)).toNatClampNeg)) ((xs (nI (i + 2)).toNatClampNeg))) dL_law_920 rfl mC_X8_labelled mM_L_170 mI_X8_labelled mV_X8_labelled mN_X8 yd_X8_labelled rfl rfl ⟨(Nat.le_of_ble_eq_true rfl), (Nat.le_of_ble_eq_true rfl)⟩ hM1.o rfl rfl rfl rfl (Nat.le_of_ble_eq_true rfl) ⟨by show k + 8 + 0 ≤ 600006; omega, by show q + 64 + 0 ≤ 7302056; omega⟩ (fun _ _ _ z => False.elim z) (fun r2 w2 sz2 _ hP2 => ?_)
  obtain ⟨rfl, tm2, lb2, rfl, hJ2, hL2, hQ2⟩ := hP2
  obtain ⟨⟨z2, rfl⟩, hQ2⟩ := hQ2
  have hall2 : AI g (MW g w1 tm2 v bf sv pa lb2 sg td sm) sz1 n (B + 1) ∧ tm2 0 = k1 ∧ (k1 = 0 → ∃ f, wOf g w1 f ∧ f 0 = Int32.toInt64 z2) := by
    rcases hd1 with ⟨hk9, v9, f9, hL9, ho9, hf9⟩ | ⟨-, E9, hX9, hk9⟩
    · obtain ⟨hr9, hz9⟩ := rd_labelled_y ((xs (nI (i + 1)).toNatClampNeg)) ((xs (nI (i + 2)).toNatClampNeg)) hA.1 hC.k0 hQ2 hL9
      obtain ⟨rfl, rfl, rfl⟩ := st_labelled hL9
      exact ⟨⟨_, _, _, _, _, _, _, _, _, _, _, _, _, _, _, _, _, Nat.le_succ_of_le hc0, hC1.mw, hT1.mw, MR_MW, hJ2, (hA.tm (hL2 2 (by decide)) (hL2 7 (by decide))), hRI.tm (hL2 2 (by decide)) (by omega), fun h => absurd h (Nat.succ_ne_zero _)⟩, hz9.trans hk9.symm, fun _ => ⟨f9, ho9, hf9.trans (congrArg Int32.toInt64 (Value.int.inj (Option.some.inj hr9)))⟩⟩
    · have hz9 := rd_labelled_n ((xs (nI (i + 1)).toNatClampNeg)) ((xs (nI (i + 2)).toNatClampNeg)) hA.1 hC.k0 hQ2 hX9
      have hk8 := kc_labelled hX9
      obtain ⟨rfl, rfl, rfl⟩ := sx_labelled hX9
      exact ⟨⟨_, _, _, _, _, _, _, _, _, _, _, _, _, _, _, _, _, Nat.le_succ_of_le hc0, hC1.mw, hT1.mw, MR_MW, hJ2, (hA.tm (hL2 2 (by decide)) (hL2 7 (by decide))), hRI.tm (hL2 2 (by decide)) (by omega), fun h => absurd h (Nat.succ_ne_zero _)⟩, hz9.trans hk9.symm, fun z => absurd (hk9.symm.trans z) hk8⟩
  refine x_st (st1 := [.int z2]) rfl ?_
  refine x_istore [(7, .int z2), (6, .int k1), (0, .ref b), (1, .ref (g.2 0)), (2, .ref (g.2 0 + 258)), (3, .ref (g.2 0 + 267)), (4, .ref (g.2 0 + 268)), (5, .int (nI i))] 925 C0 dL_law_923 rfl (by decide) rfl ?_
  refine x_aload_n 4 926 C0 dL_law_925 rfl rfl rfl ?_
  refine x_callV 929 C0 (k_X8_thrown l hl g (MW g w1 tm2 v bf sv pa lb2 sg td sm) sz1 n tm2 v bf sv pa lb2 sg td sm MR_MW hJ2) dL_law_926 rfl mC_X8_thrown mM_L_130 mI_X8_thrown mV_X8_thrown mN_X8 yd_X8_thrown rfl rfl ⟨(Nat.le_of_ble_eq_true rfl), (Nat.le_of_ble_eq_true rfl)⟩ MR_MW.o rfl rfl rfl rfl (Nat.le_of_ble_eq_true rfl) ⟨by show k + 8 + 0 + 0 ≤ 600006; omega, by show q + 64 + 0 + 0 ≤ 7302056; omega⟩ (fun _ _ _ z => False.elim z) (fun r3 w3 sz3 _ hP3 => ?_)
  obtain ⟨rfl, rfl, rfl⟩ := hP3
  refine x_st (st1 := [.int (tm2 0)]) rfl ?_
  refine x_iload 1 931 C0 dL_law_929 rfl rfl ?_
  refine x_icmp_eq 936 934 C0 dL_law_931 rfl (by decide) (fun _ => ?_) (fun z => absurd hall2.2.1 z)
  refine x_iload 1 938 C0 dL_law_936 rfl rfl ?_
  refine x_if_ne 953 941 C0 dL_law_938 rfl (by decide) (fun _ => ?_) (fun hk0 => ?_)
  · skip
    refine x_goto 2017 C0 dL_law_953 (by decide) ?_
    exact x_widen (k + 256) (q + 2500) (by omega) (by omega) (x_lv [2, 3, 4, 5, 6, 7] rfl (kk _ _ _ ⟨hall2.1, hO1.mw, hD1.mw⟩))
  · obtain ⟨f9, hf9, hf90⟩ := hall2.2.2 hk0
    refine x_aload_n 5 942 C0 dL_law_941 rfl rfl rfl ?_
    refine x_iconst (v := 0) 943 C0 dL_law_942 rfl (by decide) ?_
    refine x_lald 3 944 C0 dL_law_943 rfl ((MW_ne (by omega)).trans hf9) rfl (by unfold vp_in; decide) ?_
    refine x_st (st1 := [.long (f9 0)]) rfl ?_
    refine x_iload 0 946 C0 dL_law_944 rfl rfl ?_
    refine x_i2l (v := (z2).toInt64) 947 C0 dL_law_946 rfl rfl ?_
    refine x_lcmpE 948 C0 dL_law_947 rfl hf90 ?_
    refine x_if_eq 953 951 C0 dL_law_948 rfl (by decide) (fun _ => ?_) (fun z => absurd rfl z)
    refine x_goto 2017 C0 dL_law_953 (by decide) ?_
    exact x_widen (k + 256) (q + 2500) (by omega) (by omega) (x_lv [2, 3, 4, 5, 6, 7] rfl (kk _ _ _ ⟨hall2.1, hO1.mw, hD1.mw⟩))
set_option maxHeartbeats 4000000 in
set_option maxRecDepth 100000 in
theorem law_c12 (hl : l.stackTraces = false) (C0 : xC p l s m args meth cD g cL_law 9 RL rt tb) (hX : va_X b L xs s s.heap) (hbl : b < s.heap.size) (hbA : ¬ xA g b) (hL : L ≤ 5) (i n k q B : Nat) (hi : i + 5 ≤ L) (hB : B ≤ 512) (hB0 : B = 0) (w : xw_T) (sz : Nat) (hI : LA g w sz n B) (hk : k + 256 ≤ 600006) (hq : q + 2500 ≤ 7302056) (kk : ∀ (w1 : xw_T) (sz1 n1 : Nat), LA g w1 sz1 n1 (B + 1) → xV p l e room_1 s m args below meth cD Q g 9 w1 sz1 (k + 256) (q + 2500) 2017 [(0, .ref b), (1, .ref (g.2 0)), (2, .ref (g.2 0 + 258)), (3, .ref (g.2 0 + 267)), (4, .ref (g.2 0 + 268)), (5, .int (nI i))] []) : xV p l e room_1 s m args below meth cD Q g 9 w sz k q 956 [(0, .ref b), (1, .ref (g.2 0)), (2, .ref (g.2 0 + 258)), (3, .ref (g.2 0 + 267)), (4, .ref (g.2 0 + 268)), (5, .int (nI i))] [] := by
  obtain ⟨⟨x, la, t, tt, vb, sg, LN, LF, tm, v, bf, sv, pa, lb, td, sm, c0, hc0, hC, hT, hM, hJ, hA, hRI, hRR⟩, hO, hD⟩ := hI
  refine x_aload_n 1 957 C0 dL_law_956 rfl rfl rfl ?_
  refine x_aload_n 0 958 C0 dL_law_957 rfl rfl rfl ?_
  refine x_iload 5 960 C0 dL_law_958 rfl rfl ?_
  refine x_iconst (v := 1) 961 C0 dL_law_960 rfl (by decide) ?_
  refine x_iadd 962 C0 dL_law_961 rfl ?_
  refine x_st (st1 := [.int (nI (i + 1)), .ref b, .ref (g.2 0)]) (congrArg (fun z => Value.int z :: _) (nI_add i 1)) ?_
  refine x_sld 963 C0 hX hbl hbA (vp_in_nI (n := i + 1) (by omega) (by omega)) dL_law_962 rfl ?_
  refine x_aload_n 0 964 C0 dL_law_963 rfl rfl rfl ?_
  refine x_iload 5 966 C0 dL_law_964 rfl rfl ?_
  refine x_iconst (v := 2) 967 C0 dL_law_966 rfl (by decide) ?_
  refine x_iadd 968 C0 dL_law_967 rfl ?_
  refine x_st (st1 := [.int (nI (i + 2)), .ref b, .int (xs (nI (i + 1)).toNatClampNeg), .ref (g.2 0)]) (congrArg (fun z => Value.int z :: _) (nI_add i 2)) ?_
  refine x_sld 969 C0 hX hbl hbA (vp_in_nI (n := i + 2) (by omega) (by omega)) dL_law_968 rfl ?_
  refine x_aload_n 3 970 C0 dL_law_969 rfl rfl rfl ?_
  refine x_callSH 973 C0 (e_L_chest l hl g w sz n x la t tt vb sg hC (LN 0) (LF 0) (hT 0 (by omega)) hO ((xs (nI (i + 1)).toNatClampNeg)) ((xs (nI (i + 2)).toNatClampNeg))) dL_law_970 rfl mC_L_chest mM_L_171 mS_L_chest mN_L yd_L_chest rfl rfl ⟨(Nat.le_of_ble_eq_true rfl), (Nat.le_of_ble_eq_true rfl)⟩ rfl rfl (Nat.le_of_ble_eq_true rfl) ⟨by show k + 8 ≤ 600006; omega, by show q + 64 ≤ 7302056; omega⟩ (fun _ _ _ z => False.elim z) (fun r1 w1 sz1 _ hP1 => ?_)
  obtain ⟨k1, x1, la1, t1, rfl, hz1, hF1, hC1, hd1⟩ := hP1
  have hO1 : wO g w1 := by
    rcases hd1 with ⟨-, v9, f9, -, h9, -⟩ | ⟨h9, -⟩
    · exact ⟨f9, h9⟩
    · exact h9
  have hM1 := hM.wf hF1 (Or.inl rfl) hC.zz
  have hT1 := hT.wf hF1 (Or.inl rfl) hz1
  have hD1 := hD.wf hF1 hC.zz
  refine x_st (st1 := [.int k1]) rfl ?_
  refine x_istore [(6, .int k1), (0, .ref b), (1, .ref (g.2 0)), (2, .ref (g.2 0 + 258)), (3, .ref (g.2 0 + 267)), (4, .ref (g.2 0 + 268)), (5, .int (nI i))] 975 C0 dL_law_973 rfl (by decide) rfl ?_
  refine x_aload_n 3 976 C0 dL_law_975 rfl rfl rfl ?_
  refine x_aload_n 1 977 C0 dL_law_976 rfl rfl rfl ?_
  refine x_iload 6 979 C0 dL_law_977 rfl rfl ?_
  refine x_iconst (v := 1) 980 C0 dL_law_979 rfl (by decide) ?_
  refine x_iadd 981 C0 dL_law_980 rfl ?_
  refine x_st (st1 := [.int (nI (i + 1)), .ref b, .ref (g.2 0 + 258)]) (congrArg (fun z => Value.int z :: _) (nI_add i 1)) ?_
  refine x_sld 982 C0 hX hbl hbA (vp_in_nI (n := i + 1) (by omega) (by omega)) dL_law_981 rfl ?_
  refine x_aload_n 1 983 C0 dL_law_982 rfl rfl rfl ?_
  refine x_iload 6 985 C0 dL_law_983 rfl rfl ?_
  refine x_iconst (v := 2) 986 C0 dL_law_985 rfl (by decide) ?_
  refine x_iadd 987 C0 dL_law_986 rfl ?_
  refine x_st (st1 := [.int (nI (i + 2)), .ref b, .int (xs (nI (i + 1)).toNatClampNeg), .ref (g.2 0 + 258)]) (congrArg (fun z => Value.int z :: _) (nI_add i 2)) ?_
  refine x_sld 988 C0 hX hbl hbA (vp_in_nI (n := i + 2) (by omega) (by omega)) dL_law_987 rfl ?_
  refine x_callV 991 C0 (e_X8_chest l hl g w1 sz1 n tm v bf sv pa lb sg td sm hM1 hJ ((xs (nI (i + 1)).toNatClampNeg)) ((xs (nI (i + 2)).toNatClampNeg))) dL_law_988 rfl mC_X8_chest mM_L_173 mI_X8_chest mV_X8_chest mN_X8 yd_X8_chest rfl rfl ⟨(Nat.le_of_ble_eq_true rfl), (Nat.le_of_ble_eq_true rfl)⟩ hM1.o rfl rfl rfl rfl (Nat.le_of_ble_eq_true rfl) ⟨by show k + 8 + 0 ≤ 600006; omega, by show q + 64 + 0 ≤ 7302056; omega⟩ (fun _ _ _ z => False.elim z) (fun r2 w2 sz2 _ hP2 => ?_)
  obtain ⟨rfl, tm2, lb2, rfl, hJ2, hL2, hQ2⟩ := hP2
  obtain ⟨⟨z2, rfl⟩, hQ2⟩ := hQ2
  have hall2 : AI g (MW g w1 tm2 v bf sv pa lb2 sg td sm) sz1 n (B + 1) ∧ tm2 0 = k1 ∧ (k1 = 0 → ∃ f, wOf g w1 f ∧ f 0 = Int32.toInt64 z2) := by
    rcases hd1 with ⟨hk9, v9, f9, hL9, ho9, hf9⟩ | ⟨-, E9, hX9, hk9⟩
    · obtain ⟨hr9, hz9⟩ := rd_chest_y ((xs (nI (i + 1)).toNatClampNeg)) ((xs (nI (i + 2)).toNatClampNeg)) hA.1 hC.k0 hQ2 hL9
      obtain ⟨rfl, rfl, rfl⟩ := st_chest hL9
      exact ⟨⟨_, _, _, _, _, _, _, _, _, _, _, _, _, _, _, _, _, Nat.le_succ_of_le hc0, hC1.mw, hT1.mw, MR_MW, hJ2, (hA.tm (hL2 2 (by decide)) (hL2 7 (by decide))), hRI.tm (hL2 2 (by decide)) (by omega), fun h => absurd h (Nat.succ_ne_zero _)⟩, hz9.trans hk9.symm, fun _ => ⟨f9, ho9, hf9.trans (congrArg Int32.toInt64 (Value.int.inj (Option.some.inj hr9)))⟩⟩
    · have hz9 := rd_chest_n ((xs (nI (i + 1)).toNatClampNeg)) ((xs (nI (i + 2)).toNatClampNeg)) hA.1 hC.k0 hQ2 hX9
      have hk8 := kc_chest hX9
      obtain ⟨rfl, rfl, rfl⟩ := sx_chest hX9
      exact ⟨⟨_, _, _, _, _, _, _, _, _, _, _, _, _, _, _, _, _, Nat.le_succ_of_le hc0, hC1.mw, hT1.mw, MR_MW, hJ2, (hA.tm (hL2 2 (by decide)) (hL2 7 (by decide))), hRI.tm (hL2 2 (by decide)) (by omega), fun h => absurd h (Nat.succ_ne_zero _)⟩, hz9.trans hk9.symm, fun z => absurd (hk9.symm.trans z) hk8⟩
  refine x_st (st1 := [.int z2]) rfl ?_
  refine x_istore [(7, .int z2), (6, .int k1), (0, .ref b), (1, .ref (g.2 0)), (2, .ref (g.2 0 + 258)), (3, .ref (g.2 0 + 267)), (4, .ref (g.2 0 + 268)), (5, .int (nI i))] 993 C0 dL_law_991 rfl (by decide) rfl ?_
  refine x_aload_n 4 994 C0 dL_law_993 rfl rfl rfl ?_
  refine x_callV 997 C0 (k_X8_thrown l hl g (MW g w1 tm2 v bf sv pa lb2 sg td sm) sz1 n tm2 v bf sv pa lb2 sg td sm MR_MW hJ2) dL_law_994 rfl mC_X8_thrown mM_L_130 mI_X8_thrown mV_X8_thrown mN_X8 yd_X8_thrown rfl rfl ⟨(Nat.le_of_ble_eq_true rfl), (Nat.le_of_ble_eq_true rfl)⟩ MR_MW.o rfl rfl rfl rfl (Nat.le_of_ble_eq_true rfl) ⟨by show k + 8 + 0 + 0 ≤ 600006; omega, by show q + 64 + 0 + 0 ≤ 7302056; omega⟩ (fun _ _ _ z => False.elim z) (fun r3 w3 sz3 _ hP3 => ?_)
  obtain ⟨rfl, rfl, rfl⟩ := hP3
  refine x_st (st1 := [.int (tm2 0)]) rfl ?_
  refine x_iload 1 999 C0 dL_law_997 rfl rfl ?_
  refine x_icmp_eq 1004 1002 C0 dL_law_999 rfl (by decide) (fun _ => ?_) (fun z => absurd hall2.2.1 z)
  refine x_iload 1 1006 C0 dL_law_1004 rfl rfl ?_
  refine x_if_ne 1021 1009 C0 dL_law_1006 rfl (by decide) (fun _ => ?_) (fun hk0 => ?_)
  · skip
    refine x_goto 2017 C0 dL_law_1021 (by decide) ?_
    exact x_widen (k + 256) (q + 2500) (by omega) (by omega) (x_lv [2, 3, 4, 5, 6, 7] rfl (kk _ _ _ ⟨hall2.1, hO1.mw, hD1.mw⟩))
  · obtain ⟨f9, hf9, hf90⟩ := hall2.2.2 hk0
    refine x_aload_n 5 1010 C0 dL_law_1009 rfl rfl rfl ?_
    refine x_iconst (v := 0) 1011 C0 dL_law_1010 rfl (by decide) ?_
    refine x_lald 3 1012 C0 dL_law_1011 rfl ((MW_ne (by omega)).trans hf9) rfl (by unfold vp_in; decide) ?_
    refine x_st (st1 := [.long (f9 0)]) rfl ?_
    refine x_iload 0 1014 C0 dL_law_1012 rfl rfl ?_
    refine x_i2l (v := (z2).toInt64) 1015 C0 dL_law_1014 rfl rfl ?_
    refine x_lcmpE 1016 C0 dL_law_1015 rfl hf90 ?_
    refine x_if_eq 1021 1019 C0 dL_law_1016 rfl (by decide) (fun _ => ?_) (fun z => absurd rfl z)
    refine x_goto 2017 C0 dL_law_1021 (by decide) ?_
    exact x_widen (k + 256) (q + 2500) (by omega) (by omega) (x_lv [2, 3, 4, 5, 6, 7] rfl (kk _ _ _ ⟨hall2.1, hO1.mw, hD1.mw⟩))
set_option maxHeartbeats 4000000 in
set_option maxRecDepth 100000 in
theorem law_c13 (hl : l.stackTraces = false) (C0 : xC p l s m args meth cD g cL_law 9 RL rt tb) (hX : va_X b L xs s s.heap) (hbl : b < s.heap.size) (hbA : ¬ xA g b) (hL : L ≤ 5) (i n k q B : Nat) (hi : i + 5 ≤ L) (hB : B ≤ 512) (hB0 : B = 0) (w : xw_T) (sz : Nat) (hI : LA g w sz n B) (hk : k + 256 ≤ 600006) (hq : q + 2500 ≤ 7302056) (kk : ∀ (w1 : xw_T) (sz1 n1 : Nat), LA g w1 sz1 n1 (B + 1) → xV p l e room_1 s m args below meth cD Q g 9 w1 sz1 (k + 256) (q + 2500) 2017 [(0, .ref b), (1, .ref (g.2 0)), (2, .ref (g.2 0 + 258)), (3, .ref (g.2 0 + 267)), (4, .ref (g.2 0 + 268)), (5, .int (nI i))] []) : xV p l e room_1 s m args below meth cD Q g 9 w sz k q 1024 [(0, .ref b), (1, .ref (g.2 0)), (2, .ref (g.2 0 + 258)), (3, .ref (g.2 0 + 267)), (4, .ref (g.2 0 + 268)), (5, .int (nI i))] [] := by
  obtain ⟨⟨x, la, t, tt, vb, sg, LN, LF, tm, v, bf, sv, pa, lb, td, sm, c0, hc0, hC, hT, hM, hJ, hA, hRI, hRR⟩, hO, hD⟩ := hI
  refine x_aload_n 1 1025 C0 dL_law_1024 rfl rfl rfl ?_
  refine x_aload_n 0 1026 C0 dL_law_1025 rfl rfl rfl ?_
  refine x_iload 5 1028 C0 dL_law_1026 rfl rfl ?_
  refine x_iconst (v := 1) 1029 C0 dL_law_1028 rfl (by decide) ?_
  refine x_iadd 1030 C0 dL_law_1029 rfl ?_
  refine x_st (st1 := [.int (nI (i + 1)), .ref b, .ref (g.2 0)]) (congrArg (fun z => Value.int z :: _) (nI_add i 1)) ?_
  refine x_sld 1031 C0 hX hbl hbA (vp_in_nI (n := i + 1) (by omega) (by omega)) dL_law_1030 rfl ?_
  refine x_aload_n 3 1032 C0 dL_law_1031 rfl rfl rfl ?_
  refine x_callSH 1035 C0 (e_L_worth l hl g w sz n x la t tt vb sg hC hO ((xs (nI (i + 1)).toNatClampNeg))) dL_law_1032 rfl mC_L_worth mM_L_174 mS_L_worth mN_L yd_L_worth rfl rfl ⟨(Nat.le_of_ble_eq_true rfl), (Nat.le_of_ble_eq_true rfl)⟩ rfl rfl (Nat.le_of_ble_eq_true rfl) ⟨by show k + 8 ≤ 600006; omega, by show q + 64 ≤ 7302056; omega⟩ (fun _ _ _ z => False.elim z) (fun r1 w1 sz1 _ hP1 => ?_)
  obtain ⟨k1, x1, la1, t1, rfl, hz1, hF1, hC1, hd1⟩ := hP1
  have hO1 : wO g w1 := by
    rcases hd1 with ⟨-, v9, f9, -, h9, -⟩ | ⟨h9, -⟩
    · exact ⟨f9, h9⟩
    · exact h9
  have hM1 := hM.wf hF1 (Or.inl rfl) hC.zz
  have hT1 := hT.wf hF1 (Or.inl rfl) hz1
  have hD1 := hD.wf hF1 hC.zz
  refine x_st (st1 := [.int k1]) rfl ?_
  refine x_istore [(6, .int k1), (0, .ref b), (1, .ref (g.2 0)), (2, .ref (g.2 0 + 258)), (3, .ref (g.2 0 + 267)), (4, .ref (g.2 0 + 268)), (5, .int (nI i))] 1037 C0 dL_law_1035 rfl (by decide) rfl ?_
  refine x_aload_n 3 1038 C0 dL_law_1037 rfl rfl rfl ?_
  refine x_aload_n 1 1039 C0 dL_law_1038 rfl rfl rfl ?_
  refine x_iload 6 1041 C0 dL_law_1039 rfl rfl ?_
  refine x_iconst (v := 1) 1042 C0 dL_law_1041 rfl (by decide) ?_
  refine x_iadd 1043 C0 dL_law_1042 rfl ?_
  refine x_st (st1 := [.int (nI (i + 1)), .ref b, .ref (g.2 0 + 258)]) (congrArg (fun z => Value.int z :: _) (nI_add i 1)) ?_
  refine x_sld 1044 C0 hX hbl hbA (vp_in_nI (n := i + 1) (by omega) (by omega)) dL_law_1043 rfl ?_
  refine x_callV 1047 C0 (k_X8_worth l hl g w1 sz1 n tm v bf sv pa lb sg td sm hM1 hJ ((xs (nI (i + 1)).toNatClampNeg))) dL_law_1044 rfl mC_X8_worth mM_L_176 mI_X8_worth mV_X8_worth mN_X8 yd_X8_worth rfl rfl ⟨(Nat.le_of_ble_eq_true rfl), (Nat.le_of_ble_eq_true rfl)⟩ hM1.o rfl rfl rfl rfl (Nat.le_of_ble_eq_true rfl) ⟨by show k + 8 + 0 ≤ 600006; omega, by show q + 64 + 0 ≤ 7302056; omega⟩ (fun _ _ _ z => False.elim z) (fun r2 w2 sz2 _ hP2 => ?_)
  obtain ⟨rfl, tm2, lb2, rfl, hJ2, hL2, hQ2⟩ := hP2
  obtain ⟨⟨z2, rfl⟩, hQ2⟩ := hQ2
  have hall2 : AI g (MW g w1 tm2 v bf sv pa lb2 sg td sm) sz1 n (B + 1) ∧ tm2 0 = k1 ∧ (k1 = 0 → ∃ f, wOf g w1 f ∧ f 0 = Int32.toInt64 z2) := by
    rcases hd1 with ⟨hk9, v9, f9, hL9, ho9, hf9⟩ | ⟨-, E9, hX9, hk9⟩
    · obtain ⟨hr9, hz9⟩ := rd_worth_y ((xs (nI (i + 1)).toNatClampNeg)) hA.1 hC.k0 hQ2 hL9
      obtain ⟨rfl, rfl, rfl⟩ := st_worth hL9
      exact ⟨⟨_, _, _, _, _, _, _, _, _, _, _, _, _, _, _, _, _, Nat.le_succ_of_le hc0, hC1.mw, hT1.mw, MR_MW, hJ2, (hA.tm (hL2 2 (by decide)) (hL2 7 (by decide))), hRI.tm (hL2 2 (by decide)) (by omega), fun h => absurd h (Nat.succ_ne_zero _)⟩, hz9.trans hk9.symm, fun _ => ⟨f9, ho9, hf9.trans (congrArg Int32.toInt64 (Value.int.inj (Option.some.inj hr9)))⟩⟩
    · have hz9 := rd_worth_n ((xs (nI (i + 1)).toNatClampNeg)) hA.1 hC.k0 hQ2 hX9
      have hk8 := kc_worth hX9
      obtain ⟨rfl, rfl, rfl⟩ := sx_worth hX9
      exact ⟨⟨_, _, _, _, _, _, _, _, _, _, _, _, _, _, _, _, _, Nat.le_succ_of_le hc0, hC1.mw, hT1.mw, MR_MW, hJ2, (hA.tm (hL2 2 (by decide)) (hL2 7 (by decide))), hRI.tm (hL2 2 (by decide)) (by omega), fun h => absurd h (Nat.succ_ne_zero _)⟩, hz9.trans hk9.symm, fun z => absurd (hk9.symm.trans z) hk8⟩
  refine x_st (st1 := [.int z2]) rfl ?_
  refine x_istore [(7, .int z2), (6, .int k1), (0, .ref b), (1, .ref (g.2 0)), (2, .ref (g.2 0 + 258)), (3, .ref (g.2 0 + 267)), (4, .ref (g.2 0 + 268)), (5, .int (nI i))] 1049 C0 dL_law_1047 rfl (by decide) rfl ?_
  refine x_aload_n 4 1050 C0 dL_law_1049 rfl rfl rfl ?_
  refine x_callV 1053 C0 (k_X8_thrown l hl g (MW g w1 tm2 v bf sv pa lb2 sg td sm) sz1 n tm2 v bf sv pa lb2 sg td sm MR_MW hJ2) dL_law_1050 rfl mC_X8_thrown mM_L_130 mI_X8_thrown mV_X8_thrown mN_X8 yd_X8_thrown rfl rfl ⟨(Nat.le_of_ble_eq_true rfl), (Nat.le_of_ble_eq_true rfl)⟩ MR_MW.o rfl rfl rfl rfl (Nat.le_of_ble_eq_true rfl) ⟨by show k + 8 + 0 + 0 ≤ 600006; omega, by show q + 64 + 0 + 0 ≤ 7302056; omega⟩ (fun _ _ _ z => False.elim z) (fun r3 w3 sz3 _ hP3 => ?_)
  obtain ⟨rfl, rfl, rfl⟩ := hP3
  refine x_st (st1 := [.int (tm2 0)]) rfl ?_
  refine x_iload 1 1055 C0 dL_law_1053 rfl rfl ?_
  refine x_icmp_eq 1060 1058 C0 dL_law_1055 rfl (by decide) (fun _ => ?_) (fun z => absurd hall2.2.1 z)
  refine x_iload 1 1062 C0 dL_law_1060 rfl rfl ?_
  refine x_if_ne 1077 1065 C0 dL_law_1062 rfl (by decide) (fun _ => ?_) (fun hk0 => ?_)
  · skip
    refine x_goto 2017 C0 dL_law_1077 (by decide) ?_
    exact x_widen (k + 256) (q + 2500) (by omega) (by omega) (x_lv [2, 3, 4, 5, 6, 7] rfl (kk _ _ _ ⟨hall2.1, hO1.mw, hD1.mw⟩))
  · obtain ⟨f9, hf9, hf90⟩ := hall2.2.2 hk0
    refine x_aload_n 5 1066 C0 dL_law_1065 rfl rfl rfl ?_
    refine x_iconst (v := 0) 1067 C0 dL_law_1066 rfl (by decide) ?_
    refine x_lald 3 1068 C0 dL_law_1067 rfl ((MW_ne (by omega)).trans hf9) rfl (by unfold vp_in; decide) ?_
    refine x_st (st1 := [.long (f9 0)]) rfl ?_
    refine x_iload 0 1070 C0 dL_law_1068 rfl rfl ?_
    refine x_i2l (v := (z2).toInt64) 1071 C0 dL_law_1070 rfl rfl ?_
    refine x_lcmpE 1072 C0 dL_law_1071 rfl hf90 ?_
    refine x_if_eq 1077 1075 C0 dL_law_1072 rfl (by decide) (fun _ => ?_) (fun z => absurd rfl z)
    refine x_goto 2017 C0 dL_law_1077 (by decide) ?_
    exact x_widen (k + 256) (q + 2500) (by omega) (by omega) (x_lv [2, 3, 4, 5, 6, 7] rfl (kk _ _ _ ⟨hall2.1, hO1.mw, hD1.mw⟩))
set_option maxHeartbeats 4000000 in
set_option maxRecDepth 100000 in
theorem law_c14 (hl : l.stackTraces = false) (C0 : xC p l s m args meth cD g cL_law 9 RL rt tb) (hX : va_X b L xs s s.heap) (hbl : b < s.heap.size) (hbA : ¬ xA g b) (hL : L ≤ 5) (i n k q B : Nat) (hi : i + 5 ≤ L) (hB : B ≤ 512) (hB0 : B = 0) (w : xw_T) (sz : Nat) (hI : LA g w sz n B) (hk : k + 256 ≤ 600006) (hq : q + 2500 ≤ 7302056) (kk : ∀ (w1 : xw_T) (sz1 n1 : Nat), LA g w1 sz1 n1 (B + 1) → xV p l e room_1 s m args below meth cD Q g 9 w1 sz1 (k + 256) (q + 2500) 2017 [(0, .ref b), (1, .ref (g.2 0)), (2, .ref (g.2 0 + 258)), (3, .ref (g.2 0 + 267)), (4, .ref (g.2 0 + 268)), (5, .int (nI i))] []) : xV p l e room_1 s m args below meth cD Q g 9 w sz k q 1080 [(0, .ref b), (1, .ref (g.2 0)), (2, .ref (g.2 0 + 258)), (3, .ref (g.2 0 + 267)), (4, .ref (g.2 0 + 268)), (5, .int (nI i))] [] := by
  obtain ⟨⟨x, la, t, tt, vb, sg, LN, LF, tm, v, bf, sv, pa, lb, td, sm, c0, hc0, hC, hT, hM, hJ, hA, hRI, hRR⟩, hO, hD⟩ := hI
  refine x_aload_n 1 1081 C0 dL_law_1080 rfl rfl rfl ?_
  refine x_aload_n 0 1082 C0 dL_law_1081 rfl rfl rfl ?_
  refine x_iload 5 1084 C0 dL_law_1082 rfl rfl ?_
  refine x_iconst (v := 1) 1085 C0 dL_law_1084 rfl (by decide) ?_
  refine x_iadd 1086 C0 dL_law_1085 rfl ?_
  refine x_st (st1 := [.int (nI (i + 1)), .ref b, .ref (g.2 0)]) (congrArg (fun z => Value.int z :: _) (nI_add i 1)) ?_
  refine x_sld 1087 C0 hX hbl hbA (vp_in_nI (n := i + 1) (by omega) (by omega)) dL_law_1086 rfl ?_
  refine x_aload_n 3 1088 C0 dL_law_1087 rfl rfl rfl ?_
  refine x_callSH 1091 C0 (e_L_ranked l hl g w sz n x la t tt vb sg hC hO ((xs (nI (i + 1)).toNatClampNeg))) dL_law_1088 rfl mC_L_ranked mM_L_177 mS_L_ranked mN_L yd_L_ranked rfl rfl ⟨(Nat.le_of_ble_eq_true rfl), (Nat.le_of_ble_eq_true rfl)⟩ rfl rfl (Nat.le_of_ble_eq_true rfl) ⟨by show k + 8 ≤ 600006; omega, by show q + 64 ≤ 7302056; omega⟩ (fun _ _ _ z => False.elim z) (fun r1 w1 sz1 _ hP1 => ?_)
  obtain ⟨k1, x1, la1, t1, rfl, hz1, hF1, hC1, hd1⟩ := hP1
  have hO1 : wO g w1 := by
    rcases hd1 with ⟨-, v9, f9, -, h9, -⟩ | ⟨h9, -⟩
    · exact ⟨f9, h9⟩
    · exact h9
  have hM1 := hM.wf hF1 (Or.inl rfl) hC.zz
  have hT1 := hT.wf hF1 (Or.inl rfl) hz1
  have hD1 := hD.wf hF1 hC.zz
  refine x_st (st1 := [.int k1]) rfl ?_
  refine x_istore [(6, .int k1), (0, .ref b), (1, .ref (g.2 0)), (2, .ref (g.2 0 + 258)), (3, .ref (g.2 0 + 267)), (4, .ref (g.2 0 + 268)), (5, .int (nI i))] 1093 C0 dL_law_1091 rfl (by decide) rfl ?_
  refine x_aload_n 3 1094 C0 dL_law_1093 rfl rfl rfl ?_
  refine x_aload_n 1 1095 C0 dL_law_1094 rfl rfl rfl ?_
  refine x_iload 6 1097 C0 dL_law_1095 rfl rfl ?_
  refine x_iconst (v := 1) 1098 C0 dL_law_1097 rfl (by decide) ?_
  refine x_iadd 1099 C0 dL_law_1098 rfl ?_
  refine x_st (st1 := [.int (nI (i + 1)), .ref b, .ref (g.2 0 + 258)]) (congrArg (fun z => Value.int z :: _) (nI_add i 1)) ?_
  refine x_sld 1100 C0 hX hbl hbA (vp_in_nI (n := i + 1) (by omega) (by omega)) dL_law_1099 rfl ?_
  refine x_callV 1103 C0 (e_X8_ranked l hl g w1 sz1 n tm v bf sv pa lb sg td sm hM1 hJ ((xs (nI (i + 1)).toNatClampNeg))) dL_law_1100 rfl mC_X8_ranked mM_L_179 mI_X8_ranked mV_X8_ranked mN_X8 yd_X8_ranked rfl rfl ⟨(Nat.le_of_ble_eq_true rfl), (Nat.le_of_ble_eq_true rfl)⟩ hM1.o rfl rfl rfl rfl (Nat.le_of_ble_eq_true rfl) ⟨by show k + 8 + 0 ≤ 600006; omega, by show q + 64 + 0 ≤ 7302056; omega⟩ (fun _ _ _ z => False.elim z) (fun r2 w2 sz2 _ hP2 => ?_)
  obtain ⟨rfl, tm2, lb2, rfl, hJ2, hL2, hQ2⟩ := hP2
  obtain ⟨⟨z2, rfl⟩, hQ2⟩ := hQ2
  have hall2 : AI g (MW g w1 tm2 v bf sv pa lb2 sg td sm) sz1 n (B + 1) ∧ tm2 0 = k1 ∧ (k1 = 0 → ∃ f, wOf g w1 f ∧ f 0 = Int32.toInt64 z2) := by
    rcases hd1 with ⟨hk9, v9, f9, hL9, ho9, hf9⟩ | ⟨-, E9, hX9, hk9⟩
    · obtain ⟨hr9, hz9⟩ := rd_ranked_y ((xs (nI (i + 1)).toNatClampNeg)) hA.1 hC.k0 hQ2 hL9
      obtain ⟨rfl, rfl, rfl⟩ := st_ranked hL9
      exact ⟨⟨_, _, _, _, _, _, _, _, _, _, _, _, _, _, _, _, _, Nat.le_succ_of_le hc0, hC1.mw, hT1.mw, MR_MW, hJ2, (hA.tm (hL2 2 (by decide)) (hL2 7 (by decide))), hRI.tm (hL2 2 (by decide)) (by omega), fun h => absurd h (Nat.succ_ne_zero _)⟩, hz9.trans hk9.symm, fun _ => ⟨f9, ho9, hf9.trans (congrArg Int32.toInt64 (Value.int.inj (Option.some.inj hr9)))⟩⟩
    · have hz9 := rd_ranked_n ((xs (nI (i + 1)).toNatClampNeg)) hA.1 hC.k0 hQ2 hX9
      have hk8 := kc_ranked hX9
      obtain ⟨rfl, rfl, rfl⟩ := sx_ranked hX9
      exact ⟨⟨_, _, _, _, _, _, _, _, _, _, _, _, _, _, _, _, _, Nat.le_succ_of_le hc0, hC1.mw, hT1.mw, MR_MW, hJ2, (hA.tm (hL2 2 (by decide)) (hL2 7 (by decide))), hRI.tm (hL2 2 (by decide)) (by omega), fun h => absurd h (Nat.succ_ne_zero _)⟩, hz9.trans hk9.symm, fun z => absurd (hk9.symm.trans z) hk8⟩
  refine x_st (st1 := [.int z2]) rfl ?_
  refine x_istore [(7, .int z2), (6, .int k1), (0, .ref b), (1, .ref (g.2 0)), (2, .ref (g.2 0 + 258)), (3, .ref (g.2 0 + 267)), (4, .ref (g.2 0 + 268)), (5, .int (nI i))] 1105 C0 dL_law_1103 rfl (by decide) rfl ?_
  refine x_aload_n 4 1106 C0 dL_law_1105 rfl rfl rfl ?_
  refine x_callV 1109 C0 (k_X8_thrown l hl g (MW g w1 tm2 v bf sv pa lb2 sg td sm) sz1 n tm2 v bf sv pa lb2 sg td sm MR_MW hJ2) dL_law_1106 rfl mC_X8_thrown mM_L_130 mI_X8_thrown mV_X8_thrown mN_X8 yd_X8_thrown rfl rfl ⟨(Nat.le_of_ble_eq_true rfl), (Nat.le_of_ble_eq_true rfl)⟩ MR_MW.o rfl rfl rfl rfl (Nat.le_of_ble_eq_true rfl) ⟨by show k + 8 + 0 + 0 ≤ 600006; omega, by show q + 64 + 0 + 0 ≤ 7302056; omega⟩ (fun _ _ _ z => False.elim z) (fun r3 w3 sz3 _ hP3 => ?_)
  obtain ⟨rfl, rfl, rfl⟩ := hP3
  refine x_st (st1 := [.int (tm2 0)]) rfl ?_
  refine x_iload 1 1111 C0 dL_law_1109 rfl rfl ?_
  refine x_icmp_eq 1116 1114 C0 dL_law_1111 rfl (by decide) (fun _ => ?_) (fun z => absurd hall2.2.1 z)
  refine x_iload 1 1118 C0 dL_law_1116 rfl rfl ?_
  refine x_if_ne 1133 1121 C0 dL_law_1118 rfl (by decide) (fun _ => ?_) (fun hk0 => ?_)
  · skip
    refine x_goto 2017 C0 dL_law_1133 (by decide) ?_
    exact x_widen (k + 256) (q + 2500) (by omega) (by omega) (x_lv [2, 3, 4, 5, 6, 7] rfl (kk _ _ _ ⟨hall2.1, hO1.mw, hD1.mw⟩))
  · obtain ⟨f9, hf9, hf90⟩ := hall2.2.2 hk0
    refine x_aload_n 5 1122 C0 dL_law_1121 rfl rfl rfl ?_
    refine x_iconst (v := 0) 1123 C0 dL_law_1122 rfl (by decide) ?_
    refine x_lald 3 1124 C0 dL_law_1123 rfl ((MW_ne (by omega)).trans hf9) rfl (by unfold vp_in; decide) ?_
    refine x_st (st1 := [.long (f9 0)]) rfl ?_
    refine x_iload 0 1126 C0 dL_law_1124 rfl rfl ?_
    refine x_i2l (v := (z2).toInt64) 1127 C0 dL_law_1126 rfl rfl ?_
    refine x_lcmpE 1128 C0 dL_law_1127 rfl hf90 ?_
    refine x_if_eq 1133 1131 C0 dL_law_1128 rfl (by decide) (fun _ => ?_) (fun z => absurd rfl z)
    refine x_goto 2017 C0 dL_law_1133 (by decide) ?_
    exact x_widen (k + 256) (q + 2500) (by omega) (by omega) (x_lv [2, 3, 4, 5, 6, 7] rfl (kk _ _ _ ⟨hall2.1, hO1.mw, hD1.mw⟩))
set_option maxHeartbeats 4000000 in
set_option maxRecDepth 100000 in
theorem law_c15 (hl : l.stackTraces = false) (C0 : xC p l s m args meth cD g cL_law 9 RL rt tb) (hX : va_X b L xs s s.heap) (hbl : b < s.heap.size) (hbA : ¬ xA g b) (hL : L ≤ 5) (i n k q B : Nat) (hi : i + 5 ≤ L) (hB : B ≤ 512) (hB0 : B = 0) (w : xw_T) (sz : Nat) (hI : LA g w sz n B) (hk : k + 256 ≤ 600006) (hq : q + 2500 ≤ 7302056) (kk : ∀ (w1 : xw_T) (sz1 n1 : Nat), LA g w1 sz1 n1 (B + 1) → xV p l e room_1 s m args below meth cD Q g 9 w1 sz1 (k + 256) (q + 2500) 2017 [(0, .ref b), (1, .ref (g.2 0)), (2, .ref (g.2 0 + 258)), (3, .ref (g.2 0 + 267)), (4, .ref (g.2 0 + 268)), (5, .int (nI i))] []) : xV p l e room_1 s m args below meth cD Q g 9 w sz k q 1136 [(0, .ref b), (1, .ref (g.2 0)), (2, .ref (g.2 0 + 258)), (3, .ref (g.2 0 + 267)), (4, .ref (g.2 0 + 268)), (5, .int (nI i))] [] := by
  obtain ⟨⟨x, la, t, tt, vb, sg, LN, LF, tm, v, bf, sv, pa, lb, td, sm, c0, hc0, hC, hT, hM, hJ, hA, hRI, hRR⟩, hO, hD⟩ := hI
  refine x_aload_n 1 1137 C0 dL_law_1136 rfl rfl rfl ?_
  refine x_aload_n 0 1138 C0 dL_law_1137 rfl rfl rfl ?_
  refine x_iload 5 1140 C0 dL_law_1138 rfl rfl ?_
  refine x_iconst (v := 1) 1141 C0 dL_law_1140 rfl (by decide) ?_
  refine x_iadd 1142 C0 dL_law_1141 rfl ?_
  refine x_st (st1 := [.int (nI (i + 1)), .ref b, .ref (g.2 0)]) (congrArg (fun z => Value.int z :: _) (nI_add i 1)) ?_
  refine x_sld 1143 C0 hX hbl hbA (vp_in_nI (n := i + 1) (by omega) (by omega)) dL_law_1142 rfl ?_
  refine x_aload_n 3 1144 C0 dL_law_1143 rfl rfl rfl ?_
  refine x_callSH 1147 C0 (e_L_toQuay l hl g w sz n x la t tt vb sg hC (LN 0) (LF 0) (hT 0 (by omega)) hO ((xs (nI (i + 1)).toNatClampNeg))) dL_law_1144 rfl mC_L_toQuay mM_L_180 mS_L_toQuay mN_L yd_L_toQuay rfl rfl ⟨(Nat.le_of_ble_eq_true rfl), (Nat.le_of_ble_eq_true rfl)⟩ rfl rfl (Nat.le_of_ble_eq_true rfl) ⟨by show k + 8 ≤ 600006; omega, by show q + 64 ≤ 7302056; omega⟩ (fun _ _ _ z => False.elim z) (fun r1 w1 sz1 _ hP1 => ?_)
  obtain ⟨k1, x1, la1, t1, rfl, hz1, hF1, hC1, hd1⟩ := hP1
  have hO1 : wO g w1 := by
    rcases hd1 with ⟨-, v9, f9, -, h9, -⟩ | ⟨h9, -⟩
    · exact ⟨f9, h9⟩
    · exact h9
  have hM1 := hM.wf hF1 (Or.inl rfl) hC.zz
  have hT1 := hT.wf hF1 (Or.inl rfl) hz1
  have hD1 := hD.wf hF1 hC.zz
  refine x_st (st1 := [.int k1]) rfl ?_
  refine x_istore [(6, .int k1), (0, .ref b), (1, .ref (g.2 0)), (2, .ref (g.2 0 + 258)), (3, .ref (g.2 0 + 267)), (4, .ref (g.2 0 + 268)), (5, .int (nI i))] 1149 C0 dL_law_1147 rfl (by decide) rfl ?_
  refine x_aload_n 3 1150 C0 dL_law_1149 rfl rfl rfl ?_
  refine x_aload_n 1 1151 C0 dL_law_1150 rfl rfl rfl ?_
  refine x_iload 6 1153 C0 dL_law_1151 rfl rfl ?_
  refine x_iconst (v := 1) 1154 C0 dL_law_1153 rfl (by decide) ?_
  refine x_iadd 1155 C0 dL_law_1154 rfl ?_
  refine x_st (st1 := [.int (nI (i + 1)), .ref b, .ref (g.2 0 + 258)]) (congrArg (fun z => Value.int z :: _) (nI_add i 1)) ?_
  refine x_sld 1156 C0 hX hbl hbA (vp_in_nI (n := i + 1) (by omega) (by omega)) dL_law_1155 rfl ?_
  refine x_callV 1159 C0 (k_X8_toQuay l hl g w1 sz1 n tm v bf sv pa lb sg td sm hM1 hJ ((xs (nI (i + 1)).toNatClampNeg))) dL_law_1156 rfl mC_X8_toQuay mM_L_182 mI_X8_toQuay mV_X8_toQuay mN_X8 yd_X8_toQuay rfl rfl ⟨(Nat.le_of_ble_eq_true rfl), (Nat.le_of_ble_eq_true rfl)⟩ hM1.o rfl rfl rfl rfl (Nat.le_of_ble_eq_true rfl) ⟨by show k + 8 + 0 ≤ 600006; omega, by show q + 64 + 0 ≤ 7302056; omega⟩ (fun _ _ _ z => False.elim z) (fun r2 w2 sz2 _ hP2 => ?_)
  obtain ⟨rfl, tm2, v2, bf2, pa2, lb2, rfl, hJ2, h72, hQ2⟩ := hP2
  obtain ⟨z2, rfl⟩ := cP_r hQ2
  have hall2 : AI g (MW g w1 tm2 v2 bf2 sv pa2 lb2 sg td sm) sz1 n (B + 1) ∧ tm2 0 = k1 ∧ (k1 = 0 → ∃ f, wOf g w1 f ∧ f 0 = Int32.toInt64 z2) := by
    rcases hd1 with ⟨hk9, v9, f9, hL9, ho9, hf9⟩ | ⟨-, E9, hX9, hk9⟩
    · obtain ⟨hr9, hz9, c9, LN9, LF9, hc9, hT9, hA9⟩ := al_toQuay_y ((xs (nI (i + 1)).toNatClampNeg)) hA hT1 hC.k0 (by omega) h72 hQ2 hL9
      exact ⟨⟨_, _, _, _, _, _, _, _, _, _, _, _, _, _, _, _, _, Nat.le_trans hc9 (by omega), hC1.mw, hT9.mw, MR_MW, hJ2, hA9, ri_toQuay hRI hQ2, fun h => absurd h (Nat.succ_ne_zero _)⟩, hz9.trans hk9.symm, fun _ => ⟨f9, ho9, hf9.trans (congrArg Int32.toInt64 (Value.int.inj (Option.some.inj hr9)))⟩⟩
    · obtain ⟨hz9, c9, LN9, LF9, hc9, hT9, hA9⟩ := al_toQuay_n ((xs (nI (i + 1)).toNatClampNeg)) hA hT1 hC.k0 (by omega) h72 hQ2 hX9
      exact ⟨⟨_, _, _, _, _, _, _, _, _, _, _, _, _, _, _, _, _, Nat.le_trans hc9 (by omega), hC1.mw, hT9.mw, MR_MW, hJ2, hA9, ri_toQuay hRI hQ2, fun h => absurd h (Nat.succ_ne_zero _)⟩, hz9.trans hk9.symm, fun z => absurd (hk9.symm.trans z) (kc_toQuay hX9)⟩
  refine x_st (st1 := [.int z2]) rfl ?_
  refine x_istore [(7, .int z2), (6, .int k1), (0, .ref b), (1, .ref (g.2 0)), (2, .ref (g.2 0 + 258)), (3, .ref (g.2 0 + 267)), (4, .ref (g.2 0 + 268)), (5, .int (nI i))] 1161 C0 dL_law_1159 rfl (by decide) rfl ?_
  refine x_aload_n 4 1162 C0 dL_law_1161 rfl rfl rfl ?_
  refine x_callV 1165 C0 (k_X8_thrown l hl g (MW g w1 tm2 v2 bf2 sv pa2 lb2 sg td sm) sz1 n tm2 v2 bf2 sv pa2 lb2 sg td sm MR_MW hJ2) dL_law_1162 rfl mC_X8_thrown mM_L_130 mI_X8_thrown mV_X8_thrown mN_X8 yd_X8_thrown rfl rfl ⟨(Nat.le_of_ble_eq_true rfl), (Nat.le_of_ble_eq_true rfl)⟩ MR_MW.o rfl rfl rfl rfl (Nat.le_of_ble_eq_true rfl) ⟨by show k + 8 + 0 + 0 ≤ 600006; omega, by show q + 64 + 0 + 0 ≤ 7302056; omega⟩ (fun _ _ _ z => False.elim z) (fun r3 w3 sz3 _ hP3 => ?_)
  obtain ⟨rfl, rfl, rfl⟩ := hP3
  refine x_st (st1 := [.int (tm2 0)]) rfl ?_
  refine x_iload 1 1167 C0 dL_law_1165 rfl rfl ?_
  refine x_icmp_eq 1172 1170 C0 dL_law_1167 rfl (by decide) (fun _ => ?_) (fun z => absurd hall2.2.1 z)
  refine x_iload 1 1174 C0 dL_law_1172 rfl rfl ?_
  refine x_if_ne 1189 1177 C0 dL_law_1174 rfl (by decide) (fun _ => ?_) (fun hk0 => ?_)
  · skip
    refine x_goto 2017 C0 dL_law_1189 (by decide) ?_
    exact x_widen (k + 256) (q + 2500) (by omega) (by omega) (x_lv [2, 3, 4, 5, 6, 7] rfl (kk _ _ _ ⟨hall2.1, hO1.mw, hD1.mw⟩))
  · obtain ⟨f9, hf9, hf90⟩ := hall2.2.2 hk0
    refine x_aload_n 5 1178 C0 dL_law_1177 rfl rfl rfl ?_
    refine x_iconst (v := 0) 1179 C0 dL_law_1178 rfl (by decide) ?_
    refine x_lald 3 1180 C0 dL_law_1179 rfl ((MW_ne (by omega)).trans hf9) rfl (by unfold vp_in; decide) ?_
    refine x_st (st1 := [.long (f9 0)]) rfl ?_
    refine x_iload 0 1182 C0 dL_law_1180 rfl rfl ?_
    refine x_i2l (v := (z2).toInt64) 1183 C0 dL_law_1182 rfl rfl ?_
    refine x_lcmpE 1184 C0 dL_law_1183 rfl hf90 ?_
    refine x_if_eq 1189 1187 C0 dL_law_1184 rfl (by decide) (fun _ => ?_) (fun z => absurd rfl z)
    refine x_goto 2017 C0 dL_law_1189 (by decide) ?_
    exact x_widen (k + 256) (q + 2500) (by omega) (by omega) (x_lv [2, 3, 4, 5, 6, 7] rfl (kk _ _ _ ⟨hall2.1, hO1.mw, hD1.mw⟩))
set_option maxHeartbeats 4000000 in
set_option maxRecDepth 100000 in
theorem law_c16 (hl : l.stackTraces = false) (C0 : xC p l s m args meth cD g cL_law 9 RL rt tb) (hX : va_X b L xs s s.heap) (hbl : b < s.heap.size) (hbA : ¬ xA g b) (hL : L ≤ 5) (i n k q B : Nat) (hi : i + 5 ≤ L) (hB : B ≤ 512) (hB0 : B = 0) (w : xw_T) (sz : Nat) (hI : LA g w sz n B) (hk : k + 256 ≤ 600006) (hq : q + 2500 ≤ 7302056) (kk : ∀ (w1 : xw_T) (sz1 n1 : Nat), LA g w1 sz1 n1 (B + 1) → xV p l e room_1 s m args below meth cD Q g 9 w1 sz1 (k + 256) (q + 2500) 2017 [(0, .ref b), (1, .ref (g.2 0)), (2, .ref (g.2 0 + 258)), (3, .ref (g.2 0 + 267)), (4, .ref (g.2 0 + 268)), (5, .int (nI i))] []) : xV p l e room_1 s m args below meth cD Q g 9 w sz k q 1192 [(0, .ref b), (1, .ref (g.2 0)), (2, .ref (g.2 0 + 258)), (3, .ref (g.2 0 + 267)), (4, .ref (g.2 0 + 268)), (5, .int (nI i))] [] := by
  obtain ⟨⟨x, la, t, tt, vb, sg, LN, LF, tm, v, bf, sv, pa, lb, td, sm, c0, hc0, hC, hT, hM, hJ, hA, hRI, hRR⟩, hO, hD⟩ := hI
  refine x_aload_n 1 1193 C0 dL_law_1192 rfl rfl rfl ?_
  refine x_aload_n 0 1194 C0 dL_law_1193 rfl rfl rfl ?_
  refine x_iload 5 1196 C0 dL_law_1194 rfl rfl ?_
  refine x_iconst (v := 1) 1197 C0 dL_law_1196 rfl (by decide) ?_
  refine x_iadd 1198 C0 dL_law_1197 rfl ?_
  refine x_st (st1 := [.int (nI (i + 1)), .ref b, .ref (g.2 0)]) (congrArg (fun z => Value.int z :: _) (nI_add i 1)) ?_
  refine x_sld 1199 C0 hX hbl hbA (vp_in_nI (n := i + 1) (by omega) (by omega)) dL_law_1198 rfl ?_
  refine x_aload_n 3 1200 C0 dL_law_1199 rfl rfl rfl ?_
  refine x_callSH 1203 C0 (e_L_load l hl g w sz n x la t tt vb sg hC hO ((xs (nI (i + 1)).toNatClampNeg))) dL_law_1200 rfl mC_L_load mM_L_183 mS_L_load mN_L yd_L_load rfl rfl ⟨(Nat.le_of_ble_eq_true rfl), (Nat.le_of_ble_eq_true rfl)⟩ rfl rfl (Nat.le_of_ble_eq_true rfl) ⟨by show k + 8 ≤ 600006; omega, by show q + 64 ≤ 7302056; omega⟩ (fun _ _ _ z => False.elim z) (fun r1 w1 sz1 _ hP1 => ?_)
  obtain ⟨k1, x1, la1, t1, rfl, hz1, hF1, hC1, hd1⟩ := hP1
  have hO1 : wO g w1 := by
    rcases hd1 with ⟨-, v9, f9, -, h9, -⟩ | ⟨h9, -⟩
    · exact ⟨f9, h9⟩
    · exact h9
  have hM1 := hM.wf hF1 (Or.inl rfl) hC.zz
  have hT1 := hT.wf hF1 (Or.inl rfl) hz1
  have hD1 := hD.wf hF1 hC.zz
  refine x_st (st1 := [.int k1]) rfl ?_
  refine x_istore [(6, .int k1), (0, .ref b), (1, .ref (g.2 0)), (2, .ref (g.2 0 + 258)), (3, .ref (g.2 0 + 267)), (4, .ref (g.2 0 + 268)), (5, .int (nI i))] 1205 C0 dL_law_1203 rfl (by decide) rfl ?_
  refine x_aload_n 3 1206 C0 dL_law_1205 rfl rfl rfl ?_
  refine x_aload_n 1 1207 C0 dL_law_1206 rfl rfl rfl ?_
  refine x_iload 6 1209 C0 dL_law_1207 rfl rfl ?_
  refine x_iconst (v := 1) 1210 C0 dL_law_1209 rfl (by decide) ?_
  refine x_iadd 1211 C0 dL_law_1210 rfl ?_
  refine x_st (st1 := [.int (nI (i + 1)), .ref b, .ref (g.2 0 + 258)]) (congrArg (fun z => Value.int z :: _) (nI_add i 1)) ?_
  refine x_sld 1212 C0 hX hbl hbA (vp_in_nI (n := i + 1) (by omega) (by omega)) dL_law_1211 rfl ?_
  refine x_callV 1215 C0 (k_X8_load l hl g w1 sz1 n tm v bf sv pa lb sg td sm hM1 hJ ((xs (nI (i + 1)).toNatClampNeg))) dL_law_1212 rfl mC_X8_load mM_L_185 mI_X8_load mV_X8_load mN_X8 yd_X8_load rfl rfl ⟨(Nat.le_of_ble_eq_true rfl), (Nat.le_of_ble_eq_true rfl)⟩ hM1.o rfl rfl rfl rfl (Nat.le_of_ble_eq_true rfl) ⟨by show k + 8 + 0 ≤ 600006; omega, by show q + 64 + 0 ≤ 7302056; omega⟩ (fun _ _ _ z => False.elim z) (fun r2 w2 sz2 _ hP2 => ?_)
  obtain ⟨rfl, tm2, v2, bf2, pa2, lb2, rfl, hJ2, h72, hQ2⟩ := hP2
  obtain ⟨z2, rfl⟩ := cP_r hQ2
  have hall2 : AI g (MW g w1 tm2 v2 bf2 sv pa2 lb2 sg td sm) sz1 n (B + 1) ∧ tm2 0 = k1 ∧ (k1 = 0 → ∃ f, wOf g w1 f ∧ f 0 = Int32.toInt64 z2) := by
    rcases hd1 with ⟨hk9, v9, f9, hL9, ho9, hf9⟩ | ⟨-, E9, hX9, hk9⟩
    · obtain ⟨hr9, hz9, c9, LN9, LF9, hc9, hT9, hA9⟩ := al_load_y ((xs (nI (i + 1)).toNatClampNeg)) hA hT1 hC.k0 (by omega) h72 hQ2 hL9
      exact ⟨⟨_, _, _, _, _, _, _, _, _, _, _, _, _, _, _, _, _, Nat.le_trans hc9 (by omega), hC1.mw, hT9.mw, MR_MW, hJ2, hA9, ri_load hRI hQ2, fun h => absurd h (Nat.succ_ne_zero _)⟩, hz9.trans hk9.symm, fun _ => ⟨f9, ho9, hf9.trans (congrArg Int32.toInt64 (Value.int.inj (Option.some.inj hr9)))⟩⟩
    · obtain ⟨hz9, c9, LN9, LF9, hc9, hT9, hA9⟩ := al_load_n ((xs (nI (i + 1)).toNatClampNeg)) hA hT1 hC.k0 (by omega) h72 hQ2 hX9
      exact ⟨⟨_, _, _, _, _, _, _, _, _, _, _, _, _, _, _, _, _, Nat.le_trans hc9 (by omega), hC1.mw, hT9.mw, MR_MW, hJ2, hA9, ri_load hRI hQ2, fun h => absurd h (Nat.succ_ne_zero _)⟩, hz9.trans hk9.symm, fun z => absurd (hk9.symm.trans z) (kc_load hX9)⟩
  refine x_st (st1 := [.int z2]) rfl ?_
  refine x_istore [(7, .int z2), (6, .int k1), (0, .ref b), (1, .ref (g.2 0)), (2, .ref (g.2 0 + 258)), (3, .ref (g.2 0 + 267)), (4, .ref (g.2 0 + 268)), (5, .int (nI i))] 1217 C0 dL_law_1215 rfl (by decide) rfl ?_
  refine x_aload_n 4 1218 C0 dL_law_1217 rfl rfl rfl ?_
  refine x_callV 1221 C0 (k_X8_thrown l hl g (MW g w1 tm2 v2 bf2 sv pa2 lb2 sg td sm) sz1 n tm2 v2 bf2 sv pa2 lb2 sg td sm MR_MW hJ2) dL_law_1218 rfl mC_X8_thrown mM_L_130 mI_X8_thrown mV_X8_thrown mN_X8 yd_X8_thrown rfl rfl ⟨(Nat.le_of_ble_eq_true rfl), (Nat.le_of_ble_eq_true rfl)⟩ MR_MW.o rfl rfl rfl rfl (Nat.le_of_ble_eq_true rfl) ⟨by show k + 8 + 0 + 0 ≤ 600006; omega, by show q + 64 + 0 + 0 ≤ 7302056; omega⟩ (fun _ _ _ z => False.elim z) (fun r3 w3 sz3 _ hP3 => ?_)
  obtain ⟨rfl, rfl, rfl⟩ := hP3
  refine x_st (st1 := [.int (tm2 0)]) rfl ?_
  refine x_iload 1 1223 C0 dL_law_1221 rfl rfl ?_
  refine x_icmp_eq 1228 1226 C0 dL_law_1223 rfl (by decide) (fun _ => ?_) (fun z => absurd hall2.2.1 z)
  refine x_iload 1 1230 C0 dL_law_1228 rfl rfl ?_
  refine x_if_ne 1245 1233 C0 dL_law_1230 rfl (by decide) (fun _ => ?_) (fun hk0 => ?_)
  · skip
    refine x_goto 2017 C0 dL_law_1245 (by decide) ?_
    exact x_widen (k + 256) (q + 2500) (by omega) (by omega) (x_lv [2, 3, 4, 5, 6, 7] rfl (kk _ _ _ ⟨hall2.1, hO1.mw, hD1.mw⟩))
  · obtain ⟨f9, hf9, hf90⟩ := hall2.2.2 hk0
    refine x_aload_n 5 1234 C0 dL_law_1233 rfl rfl rfl ?_
    refine x_iconst (v := 0) 1235 C0 dL_law_1234 rfl (by decide) ?_
    refine x_lald 3 1236 C0 dL_law_1235 rfl ((MW_ne (by omega)).trans hf9) rfl (by unfold vp_in; decide) ?_
    refine x_st (st1 := [.long (f9 0)]) rfl ?_
    refine x_iload 0 1238 C0 dL_law_1236 rfl rfl ?_
    refine x_i2l (v := (z2).toInt64) 1239 C0 dL_law_1238 rfl rfl ?_
    refine x_lcmpE 1240 C0 dL_law_1239 rfl hf90 ?_
    refine x_if_eq 1245 1243 C0 dL_law_1240 rfl (by decide) (fun _ => ?_) (fun z => absurd rfl z)
    refine x_goto 2017 C0 dL_law_1245 (by decide) ?_
    exact x_widen (k + 256) (q + 2500) (by omega) (by omega) (x_lv [2, 3, 4, 5, 6, 7] rfl (kk _ _ _ ⟨hall2.1, hO1.mw, hD1.mw⟩))
set_option maxHeartbeats 4000000 in
set_option maxRecDepth 100000 in
theorem law_c17 (hl : l.stackTraces = false) (C0 : xC p l s m args meth cD g cL_law 9 RL rt tb) (hX : va_X b L xs s s.heap) (hbl : b < s.heap.size) (hbA : ¬ xA g b) (hL : L ≤ 5) (i n k q B : Nat) (hi : i + 5 ≤ L) (hB : B ≤ 512) (hB0 : B = 0) (w : xw_T) (sz : Nat) (hI : LA g w sz n B) (hk : k + 256 ≤ 600006) (hq : q + 2500 ≤ 7302056) (kk : ∀ (w1 : xw_T) (sz1 n1 : Nat), LA g w1 sz1 n1 (B + 1) → xV p l e room_1 s m args below meth cD Q g 9 w1 sz1 (k + 256) (q + 2500) 2017 [(0, .ref b), (1, .ref (g.2 0)), (2, .ref (g.2 0 + 258)), (3, .ref (g.2 0 + 267)), (4, .ref (g.2 0 + 268)), (5, .int (nI i))] []) : xV p l e room_1 s m args below meth cD Q g 9 w sz k q 1248 [(0, .ref b), (1, .ref (g.2 0)), (2, .ref (g.2 0 + 258)), (3, .ref (g.2 0 + 267)), (4, .ref (g.2 0 + 268)), (5, .int (nI i))] [] := by
  obtain ⟨⟨x, la, t, tt, vb, sg, LN, LF, tm, v, bf, sv, pa, lb, td, sm, c0, hc0, hC, hT, hM, hJ, hA, hRI, hRR⟩, hO, hD⟩ := hI
  refine x_aload_n 1 1249 C0 dL_law_1248 rfl rfl rfl ?_
  refine x_aload_n 3 1250 C0 dL_law_1249 rfl rfl rfl ?_
  refine x_callSH 1253 C0 (e_L_sail l hl g w sz n x la t tt vb sg hC hO) dL_law_1250 rfl mC_L_sail mM_L_186 mS_L_sail mN_L yd_L_sail rfl rfl ⟨(Nat.le_of_ble_eq_true rfl), (Nat.le_of_ble_eq_true rfl)⟩ rfl rfl (Nat.le_of_ble_eq_true rfl) ⟨by show k + 8 ≤ 600006; omega, by show q + 64 ≤ 7302056; omega⟩ (fun _ _ _ z => False.elim z) (fun r1 w1 sz1 _ hP1 => ?_)
  obtain ⟨k1, x1, la1, t1, rfl, hz1, hF1, hC1, hd1⟩ := hP1
  have hO1 : wO g w1 := by
    rcases hd1 with ⟨-, v9, f9, -, h9, -⟩ | ⟨h9, -⟩
    · exact ⟨f9, h9⟩
    · exact h9
  have hM1 := hM.wf hF1 (Or.inl rfl) hC.zz
  have hT1 := hT.wf hF1 (Or.inl rfl) hz1
  have hD1 := hD.wf hF1 hC.zz
  refine x_st (st1 := [.int k1]) rfl ?_
  refine x_istore [(6, .int k1), (0, .ref b), (1, .ref (g.2 0)), (2, .ref (g.2 0 + 258)), (3, .ref (g.2 0 + 267)), (4, .ref (g.2 0 + 268)), (5, .int (nI i))] 1255 C0 dL_law_1253 rfl (by decide) rfl ?_
  refine x_aload_n 3 1256 C0 dL_law_1255 rfl rfl rfl ?_
  refine x_callV 1259 C0 (k_X8_sail l hl g w1 sz1 n tm v bf sv pa lb sg td sm hM1 hJ) dL_law_1256 rfl mC_X8_sail mM_L_189 mI_X8_sail mV_X8_sail mN_X8 yd_X8_sail rfl rfl ⟨(Nat.le_of_ble_eq_true rfl), (Nat.le_of_ble_eq_true rfl)⟩ hM1.o rfl rfl rfl rfl (Nat.le_of_ble_eq_true rfl) ⟨by show k + 8 + 0 ≤ 600006; omega, by show q + 64 + 0 ≤ 7302056; omega⟩ (fun _ _ _ z => False.elim z) (fun r2 w2 sz2 _ hP2 => ?_)
  obtain ⟨rfl, tm2, v2, bf2, pa2, lb2, rfl, hJ2, h72, hQ2⟩ := hP2
  obtain ⟨z2, rfl⟩ := cP_r hQ2
  have hall2 : AI g (MW g w1 tm2 v2 bf2 sv pa2 lb2 sg td sm) sz1 n (B + 1) ∧ tm2 0 = k1 ∧ (k1 = 0 → ∃ f, wOf g w1 f ∧ f 0 = Int32.toInt64 z2) := by
    rcases hd1 with ⟨hk9, v9, f9, hL9, ho9, hf9⟩ | ⟨-, E9, hX9, hk9⟩
    · obtain ⟨hr9, hz9, c9, LN9, LF9, hc9, hT9, hA9⟩ := al_sail_y hA hT1 hC.k0 (by omega) h72 hQ2 hL9
      exact ⟨⟨_, _, _, _, _, _, _, _, _, _, _, _, _, _, _, _, _, Nat.le_trans hc9 (by omega), hC1.mw, hT9.mw, MR_MW, hJ2, hA9, ri_sail hRI hQ2, fun h => absurd h (Nat.succ_ne_zero _)⟩, hz9.trans hk9.symm, fun _ => ⟨f9, ho9, hf9.trans (congrArg Int32.toInt64 (Value.int.inj (Option.some.inj hr9)))⟩⟩
    · obtain ⟨hz9, c9, LN9, LF9, hc9, hT9, hA9⟩ := al_sail_n hA hT1 hC.k0 (by omega) h72 hQ2 hX9
      exact ⟨⟨_, _, _, _, _, _, _, _, _, _, _, _, _, _, _, _, _, Nat.le_trans hc9 (by omega), hC1.mw, hT9.mw, MR_MW, hJ2, hA9, ri_sail hRI hQ2, fun h => absurd h (Nat.succ_ne_zero _)⟩, hz9.trans hk9.symm, fun z => absurd (hk9.symm.trans z) (kc_sail hX9)⟩
  refine x_st (st1 := [.int z2]) rfl ?_
  refine x_istore [(7, .int z2), (6, .int k1), (0, .ref b), (1, .ref (g.2 0)), (2, .ref (g.2 0 + 258)), (3, .ref (g.2 0 + 267)), (4, .ref (g.2 0 + 268)), (5, .int (nI i))] 1261 C0 dL_law_1259 rfl (by decide) rfl ?_
  refine x_aload_n 4 1262 C0 dL_law_1261 rfl rfl rfl ?_
  refine x_callV 1265 C0 (k_X8_thrown l hl g (MW g w1 tm2 v2 bf2 sv pa2 lb2 sg td sm) sz1 n tm2 v2 bf2 sv pa2 lb2 sg td sm MR_MW hJ2) dL_law_1262 rfl mC_X8_thrown mM_L_130 mI_X8_thrown mV_X8_thrown mN_X8 yd_X8_thrown rfl rfl ⟨(Nat.le_of_ble_eq_true rfl), (Nat.le_of_ble_eq_true rfl)⟩ MR_MW.o rfl rfl rfl rfl (Nat.le_of_ble_eq_true rfl) ⟨by show k + 8 + 0 + 0 ≤ 600006; omega, by show q + 64 + 0 + 0 ≤ 7302056; omega⟩ (fun _ _ _ z => False.elim z) (fun r3 w3 sz3 _ hP3 => ?_)
  obtain ⟨rfl, rfl, rfl⟩ := hP3
  refine x_st (st1 := [.int (tm2 0)]) rfl ?_
  refine x_iload 1 1267 C0 dL_law_1265 rfl rfl ?_
  refine x_icmp_eq 1272 1270 C0 dL_law_1267 rfl (by decide) (fun _ => ?_) (fun z => absurd hall2.2.1 z)
  refine x_iload 1 1274 C0 dL_law_1272 rfl rfl ?_
  refine x_if_ne 1289 1277 C0 dL_law_1274 rfl (by decide) (fun _ => ?_) (fun hk0 => ?_)
  · skip
    refine x_goto 2017 C0 dL_law_1289 (by decide) ?_
    exact x_widen (k + 256) (q + 2500) (by omega) (by omega) (x_lv [2, 3, 4, 5, 6, 7] rfl (kk _ _ _ ⟨hall2.1, hO1.mw, hD1.mw⟩))
  · obtain ⟨f9, hf9, hf90⟩ := hall2.2.2 hk0
    refine x_aload_n 5 1278 C0 dL_law_1277 rfl rfl rfl ?_
    refine x_iconst (v := 0) 1279 C0 dL_law_1278 rfl (by decide) ?_
    refine x_lald 3 1280 C0 dL_law_1279 rfl ((MW_ne (by omega)).trans hf9) rfl (by unfold vp_in; decide) ?_
    refine x_st (st1 := [.long (f9 0)]) rfl ?_
    refine x_iload 0 1282 C0 dL_law_1280 rfl rfl ?_
    refine x_i2l (v := (z2).toInt64) 1283 C0 dL_law_1282 rfl rfl ?_
    refine x_lcmpE 1284 C0 dL_law_1283 rfl hf90 ?_
    refine x_if_eq 1289 1287 C0 dL_law_1284 rfl (by decide) (fun _ => ?_) (fun z => absurd rfl z)
    refine x_goto 2017 C0 dL_law_1289 (by decide) ?_
    exact x_widen (k + 256) (q + 2500) (by omega) (by omega) (x_lv [2, 3, 4, 5, 6, 7] rfl (kk _ _ _ ⟨hall2.1, hO1.mw, hD1.mw⟩))
set_option maxHeartbeats 4000000 in
set_option maxRecDepth 100000 in
theorem law_c18 (hl : l.stackTraces = false) (C0 : xC p l s m args meth cD g cL_law 9 RL rt tb) (hX : va_X b L xs s s.heap) (hbl : b < s.heap.size) (hbA : ¬ xA g b) (hL : L ≤ 5) (i n k q B : Nat) (hi : i + 5 ≤ L) (hB : B ≤ 512) (hB0 : B = 0) (w : xw_T) (sz : Nat) (hI : LA g w sz n B) (hk : k + 256 ≤ 600006) (hq : q + 2500 ≤ 7302056) (kk : ∀ (w1 : xw_T) (sz1 n1 : Nat), LA g w1 sz1 n1 (B + 1) → xV p l e room_1 s m args below meth cD Q g 9 w1 sz1 (k + 256) (q + 2500) 2017 [(0, .ref b), (1, .ref (g.2 0)), (2, .ref (g.2 0 + 258)), (3, .ref (g.2 0 + 267)), (4, .ref (g.2 0 + 268)), (5, .int (nI i))] []) : xV p l e room_1 s m args below meth cD Q g 9 w sz k q 1292 [(0, .ref b), (1, .ref (g.2 0)), (2, .ref (g.2 0 + 258)), (3, .ref (g.2 0 + 267)), (4, .ref (g.2 0 + 268)), (5, .int (nI i))] [] := by
  obtain ⟨⟨x, la, t, tt, vb, sg, LN, LF, tm, v, bf, sv, pa, lb, td, sm, c0, hc0, hC, hT, hM, hJ, hA, hRI, hRR⟩, hO, hD⟩ := hI
  refine x_aload_n 1 1293 C0 dL_law_1292 rfl rfl rfl ?_
  refine x_callV 1296 C0 (e_X7_cargo l hl g w sz n x la t tt vb sg hC) dL_law_1293 rfl mC_X7_cargo mM_L_190 mI_X7_cargo mV_X7_cargo mN_X7 yd_X7_cargo rfl rfl ⟨(Nat.le_of_ble_eq_true rfl), (Nat.le_of_ble_eq_true rfl)⟩ hC.1.1 rfl rfl rfl rfl (Nat.le_of_ble_eq_true rfl) ⟨by show k + 8 ≤ 600006; omega, by show q + 64 ≤ 7302056; omega⟩ (fun _ _ _ z => False.elim z) (fun r1 w1 sz1 _ hP1 => ?_)
  obtain ⟨⟨k1, rfl⟩, hF1, hz1, x1, la1, t1, hC1, hL1⟩ := hP1
  have hM1 := hM.wf (hF1.wf (a := 267)) (Or.inl rfl) hC.zz
  have hT1 := hT.wf (hF1.wf (a := 267)) (Or.inl rfl) hz1
  have hO1 := hO.xf hF1 hC.zz
  have hD1 := hD.wf hF1.wf hC.zz
  refine x_st (st1 := [.int k1]) rfl ?_
  refine x_aload_n 2 1297 C0 dL_law_1296 rfl rfl rfl ?_
  refine x_callV 1300 C0 (k_X8_cargo l hl g w1 sz1 n tm v bf sv pa lb sg td sm hM1 hJ) dL_law_1297 rfl mC_X8_cargo mM_L_193 mI_X8_cargo mV_X8_cargo mN_X8 yd_X8_cargo rfl rfl ⟨(Nat.le_of_ble_eq_true rfl), (Nat.le_of_ble_eq_true rfl)⟩ hM1.o rfl rfl rfl rfl (Nat.le_of_ble_eq_true rfl) ⟨by show k + 8 + 0 ≤ 600006; omega, by show q + 64 + 0 ≤ 7302056; omega⟩ (fun _ _ _ z => False.elim z) (fun r2 w2 sz2 _ hP2 => ?_)
  obtain ⟨rfl, tm2, lb2, rfl, hJ2, hL2, hQ2⟩ := hP2
  obtain ⟨⟨z2, rfl⟩, hQ2⟩ := hQ2
  have heq2 := Value.int.inj (Option.some.inj (rd_cargo hA.1 hQ2 hL1))
  obtain ⟨rfl, rfl, rfl⟩ := st_cargo hL1
  have hall2 : AI g (MW g w1 tm2 v bf sv pa lb2 sg td sm) sz1 n (B + 1) := ⟨_, _, _, _, _, _, _, _, _, _, _, _, _, _, _, _, _, Nat.le_succ_of_le hc0, hC1.mw, hT1.mw, MR_MW, hJ2, (hA.tm (hL2 2 (by decide)) (hL2 7 (by decide))), hRI.tm (hL2 2 (by decide)) (by omega), fun h => absurd h (Nat.succ_ne_zero _)⟩
  refine x_st (st1 := [.int z2, .int k1]) rfl ?_
  refine x_icmp_eq 2017 1303 C0 dL_law_1300 rfl (by decide) (fun _ => ?_) (fun z => absurd heq2 z)
  exact x_widen (k + 256) (q + 2500) (by omega) (by omega) (x_lv [0, 1, 2, 3, 4, 5] rfl (kk _ _ _ ⟨hall2, hO1.mw, hD1.mw⟩))
set_option maxHeartbeats 4000000 in
set_option maxRecDepth 100000 in
theorem law_c19 (hl : l.stackTraces = false) (C0 : xC p l s m args meth cD g cL_law 9 RL rt tb) (hX : va_X b L xs s s.heap) (hbl : b < s.heap.size) (hbA : ¬ xA g b) (hL : L ≤ 5) (i n k q B : Nat) (hi : i + 5 ≤ L) (hB : B ≤ 512) (hB0 : B = 0) (w : xw_T) (sz : Nat) (hI : LA g w sz n B) (hk : k + 256 ≤ 600006) (hq : q + 2500 ≤ 7302056) (kk : ∀ (w1 : xw_T) (sz1 n1 : Nat), LA g w1 sz1 n1 (B + 1) → xV p l e room_1 s m args below meth cD Q g 9 w1 sz1 (k + 256) (q + 2500) 2017 [(0, .ref b), (1, .ref (g.2 0)), (2, .ref (g.2 0 + 258)), (3, .ref (g.2 0 + 267)), (4, .ref (g.2 0 + 268)), (5, .int (nI i))] []) : xV p l e room_1 s m args below meth cD Q g 9 w sz k q 1305 [(0, .ref b), (1, .ref (g.2 0)), (2, .ref (g.2 0 + 258)), (3, .ref (g.2 0 + 267)), (4, .ref (g.2 0 + 268)), (5, .int (nI i))] [] := by
  obtain ⟨⟨x, la, t, tt, vb, sg, LN, LF, tm, v, bf, sv, pa, lb, td, sm, c0, hc0, hC, hT, hM, hJ, hA, hRI, hRR⟩, hO, hD⟩ := hI
  refine x_aload_n 1 1306 C0 dL_law_1305 rfl rfl rfl ?_
  refine x_aload_n 0 1307 C0 dL_law_1306 rfl rfl rfl ?_
  refine x_iload 5 1309 C0 dL_law_1307 rfl rfl ?_
  refine x_iconst (v := 1) 1310 C0 dL_law_1309 rfl (by decide) ?_
  refine x_iadd 1311 C0 dL_law_1310 rfl ?_
  refine x_st (st1 := [.int (nI (i + 1)), .ref b, .ref (g.2 0)]) (congrArg (fun z => Value.int z :: _) (nI_add i 1)) ?_
  refine x_sld 1312 C0 hX hbl hbA (vp_in_nI (n := i + 1) (by omega) (by omega)) dL_law_1311 rfl ?_
  refine x_aload_n 3 1313 C0 dL_law_1312 rfl rfl rfl ?_
  refine x_callSH 1316 C0 (e_L_height l hl g w sz n x la t tt vb sg hC hO ((xs (nI (i + 1)).toNatClampNeg))) dL_law_1313 rfl mC_L_height mM_L_194 mS_L_height mN_L yd_L_height rfl rfl ⟨(Nat.le_of_ble_eq_true rfl), (Nat.le_of_ble_eq_true rfl)⟩ rfl rfl (Nat.le_of_ble_eq_true rfl) ⟨by show k + 8 ≤ 600006; omega, by show q + 64 ≤ 7302056; omega⟩ (fun _ _ _ z => False.elim z) (fun r1 w1 sz1 _ hP1 => ?_)
  obtain ⟨k1, x1, la1, t1, rfl, hz1, hF1, hC1, hd1⟩ := hP1
  have hO1 : wO g w1 := by
    rcases hd1 with ⟨-, v9, f9, -, h9, -⟩ | ⟨h9, -⟩
    · exact ⟨f9, h9⟩
    · exact h9
  have hM1 := hM.wf hF1 (Or.inl rfl) hC.zz
  have hT1 := hT.wf hF1 (Or.inl rfl) hz1
  have hD1 := hD.wf hF1 hC.zz
  refine x_st (st1 := [.int k1]) rfl ?_
  refine x_istore [(6, .int k1), (0, .ref b), (1, .ref (g.2 0)), (2, .ref (g.2 0 + 258)), (3, .ref (g.2 0 + 267)), (4, .ref (g.2 0 + 268)), (5, .int (nI i))] 1318 C0 dL_law_1316 rfl (by decide) rfl ?_
  refine x_aload_n 3 1319 C0 dL_law_1318 rfl rfl rfl ?_
  refine x_aload_n 1 1320 C0 dL_law_1319 rfl rfl rfl ?_
  refine x_iload 6 1322 C0 dL_law_1320 rfl rfl ?_
  refine x_iconst (v := 1) 1323 C0 dL_law_1322 rfl (by decide) ?_
  refine x_iadd 1324 C0 dL_law_1323 rfl ?_
  refine x_st (st1 := [.int (nI (i + 1)), .ref b, .ref (g.2 0 + 258)]) (congrArg (fun z => Value.int z :: _) (nI_add i 1)) ?_
  refine x_sld 1325 C0 hX hbl hbA (vp_in_nI (n := i + 1) (by omega) (by omega)) dL_law_1324 rfl ?_
  refine x_callV 1328 C0 (k_X8_height l hl g w1 sz1 n tm v bf sv pa lb sg td sm hM1 hJ ((xs (nI (i + 1)).toNatClampNeg))) dL_law_1325 rfl mC_X8_height mM_L_196 mI_X8_height mV_X8_height mN_X8 yd_X8_height rfl rfl ⟨(Nat.le_of_ble_eq_true rfl), (Nat.le_of_ble_eq_true rfl)⟩ hM1.o rfl rfl rfl rfl (Nat.le_of_ble_eq_true rfl) ⟨by show k + 8 + 0 ≤ 600006; omega, by show q + 64 + 0 ≤ 7302056; omega⟩ (fun _ _ _ z => False.elim z) (fun r2 w2 sz2 _ hP2 => ?_)
  obtain ⟨rfl, tm2, lb2, rfl, hJ2, hL2, hQ2⟩ := hP2
  obtain ⟨⟨z2, rfl⟩, hQ2⟩ := hQ2
  have hall2 : AI g (MW g w1 tm2 v bf sv pa lb2 sg td sm) sz1 n (B + 1) ∧ tm2 0 = k1 ∧ (k1 = 0 → ∃ f, wOf g w1 f ∧ f 0 = Int32.toInt64 z2) := by
    rcases hd1 with ⟨hk9, v9, f9, hL9, ho9, hf9⟩ | ⟨-, E9, hX9, hk9⟩
    · obtain ⟨hr9, hz9⟩ := rd_height_y ((xs (nI (i + 1)).toNatClampNeg)) hA.1 hC.k0 hQ2 hL9
      obtain ⟨rfl, rfl, rfl⟩ := st_height hL9
      exact ⟨⟨_, _, _, _, _, _, _, _, _, _, _, _, _, _, _, _, _, Nat.le_succ_of_le hc0, hC1.mw, hT1.mw, MR_MW, hJ2, (hA.tm (hL2 2 (by decide)) (hL2 7 (by decide))), hRI.tm (hL2 2 (by decide)) (by omega), fun h => absurd h (Nat.succ_ne_zero _)⟩, hz9.trans hk9.symm, fun _ => ⟨f9, ho9, hf9.trans (congrArg Int32.toInt64 (Value.int.inj (Option.some.inj hr9)))⟩⟩
    · have hz9 := rd_height_n ((xs (nI (i + 1)).toNatClampNeg)) hA.1 hC.k0 hQ2 hX9
      have hk8 := kc_height hX9
      obtain ⟨rfl, rfl, rfl⟩ := sx_height hX9
      exact ⟨⟨_, _, _, _, _, _, _, _, _, _, _, _, _, _, _, _, _, Nat.le_succ_of_le hc0, hC1.mw, hT1.mw, MR_MW, hJ2, (hA.tm (hL2 2 (by decide)) (hL2 7 (by decide))), hRI.tm (hL2 2 (by decide)) (by omega), fun h => absurd h (Nat.succ_ne_zero _)⟩, hz9.trans hk9.symm, fun z => absurd (hk9.symm.trans z) hk8⟩
  refine x_st (st1 := [.int z2]) rfl ?_
  refine x_istore [(7, .int z2), (6, .int k1), (0, .ref b), (1, .ref (g.2 0)), (2, .ref (g.2 0 + 258)), (3, .ref (g.2 0 + 267)), (4, .ref (g.2 0 + 268)), (5, .int (nI i))] 1330 C0 dL_law_1328 rfl (by decide) rfl ?_
  refine x_aload_n 4 1331 C0 dL_law_1330 rfl rfl rfl ?_
  refine x_callV 1334 C0 (k_X8_thrown l hl g (MW g w1 tm2 v bf sv pa lb2 sg td sm) sz1 n tm2 v bf sv pa lb2 sg td sm MR_MW hJ2) dL_law_1331 rfl mC_X8_thrown mM_L_130 mI_X8_thrown mV_X8_thrown mN_X8 yd_X8_thrown rfl rfl ⟨(Nat.le_of_ble_eq_true rfl), (Nat.le_of_ble_eq_true rfl)⟩ MR_MW.o rfl rfl rfl rfl (Nat.le_of_ble_eq_true rfl) ⟨by show k + 8 + 0 + 0 ≤ 600006; omega, by show q + 64 + 0 + 0 ≤ 7302056; omega⟩ (fun _ _ _ z => False.elim z) (fun r3 w3 sz3 _ hP3 => ?_)
  obtain ⟨rfl, rfl, rfl⟩ := hP3
  refine x_st (st1 := [.int (tm2 0)]) rfl ?_
  refine x_iload 1 1336 C0 dL_law_1334 rfl rfl ?_
  refine x_icmp_eq 1341 1339 C0 dL_law_1336 rfl (by decide) (fun _ => ?_) (fun z => absurd hall2.2.1 z)
  refine x_iload 1 1343 C0 dL_law_1341 rfl rfl ?_
  refine x_if_ne 1358 1346 C0 dL_law_1343 rfl (by decide) (fun _ => ?_) (fun hk0 => ?_)
  · skip
    refine x_goto 2017 C0 dL_law_1358 (by decide) ?_
    exact x_widen (k + 256) (q + 2500) (by omega) (by omega) (x_lv [2, 3, 4, 5, 6, 7] rfl (kk _ _ _ ⟨hall2.1, hO1.mw, hD1.mw⟩))
  · obtain ⟨f9, hf9, hf90⟩ := hall2.2.2 hk0
    refine x_aload_n 5 1347 C0 dL_law_1346 rfl rfl rfl ?_
    refine x_iconst (v := 0) 1348 C0 dL_law_1347 rfl (by decide) ?_
    refine x_lald 3 1349 C0 dL_law_1348 rfl ((MW_ne (by omega)).trans hf9) rfl (by unfold vp_in; decide) ?_
    refine x_st (st1 := [.long (f9 0)]) rfl ?_
    refine x_iload 0 1351 C0 dL_law_1349 rfl rfl ?_
    refine x_i2l (v := (z2).toInt64) 1352 C0 dL_law_1351 rfl rfl ?_
    refine x_lcmpE 1353 C0 dL_law_1352 rfl hf90 ?_
    refine x_if_eq 1358 1356 C0 dL_law_1353 rfl (by decide) (fun _ => ?_) (fun z => absurd rfl z)
    refine x_goto 2017 C0 dL_law_1358 (by decide) ?_
    exact x_widen (k + 256) (q + 2500) (by omega) (by omega) (x_lv [2, 3, 4, 5, 6, 7] rfl (kk _ _ _ ⟨hall2.1, hO1.mw, hD1.mw⟩))
set_option maxHeartbeats 4000000 in
set_option maxRecDepth 100000 in
theorem law_c20 (hl : l.stackTraces = false) (C0 : xC p l s m args meth cD g cL_law 9 RL rt tb) (hX : va_X b L xs s s.heap) (hbl : b < s.heap.size) (hbA : ¬ xA g b) (hL : L ≤ 5) (i n k q B : Nat) (hi : i + 5 ≤ L) (hB : B ≤ 512) (hB0 : B = 0) (w : xw_T) (sz : Nat) (hI : LA g w sz n B) (hk : k + 256 ≤ 600006) (hq : q + 2500 ≤ 7302056) (kk : ∀ (w1 : xw_T) (sz1 n1 : Nat), LA g w1 sz1 n1 (B + 1) → xV p l e room_1 s m args below meth cD Q g 9 w1 sz1 (k + 256) (q + 2500) 2017 [(0, .ref b), (1, .ref (g.2 0)), (2, .ref (g.2 0 + 258)), (3, .ref (g.2 0 + 267)), (4, .ref (g.2 0 + 268)), (5, .int (nI i))] []) : xV p l e room_1 s m args below meth cD Q g 9 w sz k q 1361 [(0, .ref b), (1, .ref (g.2 0)), (2, .ref (g.2 0 + 258)), (3, .ref (g.2 0 + 267)), (4, .ref (g.2 0 + 268)), (5, .int (nI i))] [] := by
  obtain ⟨⟨x, la, t, tt, vb, sg, LN, LF, tm, v, bf, sv, pa, lb, td, sm, c0, hc0, hC, hT, hM, hJ, hA, hRI, hRR⟩, hO, hD⟩ := hI
  refine x_aload_n 1 1362 C0 dL_law_1361 rfl rfl rfl ?_
  refine x_aload_n 0 1363 C0 dL_law_1362 rfl rfl rfl ?_
  refine x_iload 5 1365 C0 dL_law_1363 rfl rfl ?_
  refine x_iconst (v := 1) 1366 C0 dL_law_1365 rfl (by decide) ?_
  refine x_iadd 1367 C0 dL_law_1366 rfl ?_
  refine x_st (st1 := [.int (nI (i + 1)), .ref b, .ref (g.2 0)]) (congrArg (fun z => Value.int z :: _) (nI_add i 1)) ?_
  refine x_sld 1368 C0 hX hbl hbA (vp_in_nI (n := i + 1) (by omega) (by omega)) dL_law_1367 rfl ?_
  refine x_aload_n 3 1369 C0 dL_law_1368 rfl rfl rfl ?_
  refine x_callSH 1372 C0 (e_L_heightAgain l hl g w sz n x la t tt vb sg hC hO ((xs (nI (i + 1)).toNatClampNeg))) dL_law_1369 rfl mC_L_heightAgain mM_L_197 mS_L_heightAgain mN_L yd_L_heightAgain rfl rfl ⟨(Nat.le_of_ble_eq_true rfl), (Nat.le_of_ble_eq_true rfl)⟩ rfl rfl (Nat.le_of_ble_eq_true rfl) ⟨by show k + 8 ≤ 600006; omega, by show q + 64 ≤ 7302056; omega⟩ (fun _ _ _ z => False.elim z) (fun r1 w1 sz1 _ hP1 => ?_)
  obtain ⟨k1, x1, la1, t1, rfl, hz1, hF1, hC1, hd1⟩ := hP1
  have hO1 : wO g w1 := by
    rcases hd1 with ⟨-, v9, f9, -, h9, -⟩ | ⟨h9, -⟩
    · exact ⟨f9, h9⟩
    · exact h9
  have hM1 := hM.wf hF1 (Or.inl rfl) hC.zz
  have hT1 := hT.wf hF1 (Or.inl rfl) hz1
  have hD1 := hD.wf hF1 hC.zz
  refine x_st (st1 := [.int k1]) rfl ?_
  refine x_istore [(6, .int k1), (0, .ref b), (1, .ref (g.2 0)), (2, .ref (g.2 0 + 258)), (3, .ref (g.2 0 + 267)), (4, .ref (g.2 0 + 268)), (5, .int (nI i))] 1374 C0 dL_law_1372 rfl (by decide) rfl ?_
  refine x_aload_n 3 1375 C0 dL_law_1374 rfl rfl rfl ?_
  refine x_aload_n 1 1376 C0 dL_law_1375 rfl rfl rfl ?_
  refine x_iload 6 1378 C0 dL_law_1376 rfl rfl ?_
  refine x_iconst (v := 1) 1379 C0 dL_law_1378 rfl (by decide) ?_
  refine x_iadd 1380 C0 dL_law_1379 rfl ?_
  refine x_st (st1 := [.int (nI (i + 1)), .ref b, .ref (g.2 0 + 258)]) (congrArg (fun z => Value.int z :: _) (nI_add i 1)) ?_
  refine x_sld 1381 C0 hX hbl hbA (vp_in_nI (n := i + 1) (by omega) (by omega)) dL_law_1380 rfl ?_
  refine x_callV 1384 C0 (k_X8_heightAgain l hl g w1 sz1 n tm v bf sv pa lb sg td sm hM1 hJ ((xs (nI (i + 1)).toNatClampNeg))) dL_law_1381 rfl mC_X8_heightAgain mM_L_199 mI_X8_heightAgain mV_X8_heightAgain mN_X8 yd_X8_heightAgain rfl rfl ⟨(Nat.le_of_ble_eq_true rfl), (Nat.le_of_ble_eq_true rfl)⟩ hM1.o rfl rfl rfl rfl (Nat.le_of_ble_eq_true rfl) ⟨by show k + 8 + 0 ≤ 600006; omega, by show q + 64 + 0 ≤ 7302056; omega⟩ (fun _ _ _ z => False.elim z) (fun r2 w2 sz2 _ hP2 => ?_)
  obtain ⟨rfl, tm2, lb2, rfl, hJ2, hL2, hQ2⟩ := hP2
  obtain ⟨⟨z2, rfl⟩, hQ2⟩ := hQ2
  have hall2 : AI g (MW g w1 tm2 v bf sv pa lb2 sg td sm) sz1 n (B + 1) ∧ tm2 0 = k1 ∧ (k1 = 0 → ∃ f, wOf g w1 f ∧ f 0 = Int32.toInt64 z2) := by
    rcases hd1 with ⟨hk9, v9, f9, hL9, ho9, hf9⟩ | ⟨-, E9, hX9, hk9⟩
    · obtain ⟨hr9, hz9⟩ := rd_heightAgain_y ((xs (nI (i + 1)).toNatClampNeg)) hA.1 hRI hB hQ2 hL9
      obtain ⟨rfl, rfl, rfl⟩ := st_heightAgain hL9
      exact ⟨⟨_, _, _, _, _, _, _, _, _, _, _, _, _, _, _, _, _, Nat.le_succ_of_le hc0, hC1.mw, hT1.mw, MR_MW, hJ2, (hA.tm (hL2 2 (by decide)) (hL2 7 (by decide))), hRI.tm (hL2 2 (by decide)) (by omega), fun h => absurd h (Nat.succ_ne_zero _)⟩, hz9.trans hk9.symm, fun _ => ⟨f9, ho9, hf9.trans (congrArg Int32.toInt64 (Value.int.inj (Option.some.inj hr9)))⟩⟩
    · have hz9 := rd_heightAgain_n ((xs (nI (i + 1)).toNatClampNeg)) hA.1 hRI hB hQ2 hX9
      have hk8 := kc_heightAgain hX9
      obtain ⟨rfl, rfl, rfl⟩ := sx_heightAgain hX9
      exact ⟨⟨_, _, _, _, _, _, _, _, _, _, _, _, _, _, _, _, _, Nat.le_succ_of_le hc0, hC1.mw, hT1.mw, MR_MW, hJ2, (hA.tm (hL2 2 (by decide)) (hL2 7 (by decide))), hRI.tm (hL2 2 (by decide)) (by omega), fun h => absurd h (Nat.succ_ne_zero _)⟩, hz9.trans hk9.symm, fun z => absurd (hk9.symm.trans z) hk8⟩
  refine x_st (st1 := [.int z2]) rfl ?_
  refine x_istore [(7, .int z2), (6, .int k1), (0, .ref b), (1, .ref (g.2 0)), (2, .ref (g.2 0 + 258)), (3, .ref (g.2 0 + 267)), (4, .ref (g.2 0 + 268)), (5, .int (nI i))] 1386 C0 dL_law_1384 rfl (by decide) rfl ?_
  refine x_aload_n 4 1387 C0 dL_law_1386 rfl rfl rfl ?_
  refine x_callV 1390 C0 (k_X8_thrown l hl g (MW g w1 tm2 v bf sv pa lb2 sg td sm) sz1 n tm2 v bf sv pa lb2 sg td sm MR_MW hJ2) dL_law_1387 rfl mC_X8_thrown mM_L_130 mI_X8_thrown mV_X8_thrown mN_X8 yd_X8_thrown rfl rfl ⟨(Nat.le_of_ble_eq_true rfl), (Nat.le_of_ble_eq_true rfl)⟩ MR_MW.o rfl rfl rfl rfl (Nat.le_of_ble_eq_true rfl) ⟨by show k + 8 + 0 + 0 ≤ 600006; omega, by show q + 64 + 0 + 0 ≤ 7302056; omega⟩ (fun _ _ _ z => False.elim z) (fun r3 w3 sz3 _ hP3 => ?_)
  obtain ⟨rfl, rfl, rfl⟩ := hP3
  refine x_st (st1 := [.int (tm2 0)]) rfl ?_
  refine x_iload 1 1392 C0 dL_law_1390 rfl rfl ?_
  refine x_icmp_eq 1397 1395 C0 dL_law_1392 rfl (by decide) (fun _ => ?_) (fun z => absurd hall2.2.1 z)
  refine x_iload 1 1399 C0 dL_law_1397 rfl rfl ?_
  refine x_if_ne 1414 1402 C0 dL_law_1399 rfl (by decide) (fun _ => ?_) (fun hk0 => ?_)
  · skip
    refine x_goto 2017 C0 dL_law_1414 (by decide) ?_
    exact x_widen (k + 256) (q + 2500) (by omega) (by omega) (x_lv [2, 3, 4, 5, 6, 7] rfl (kk _ _ _ ⟨hall2.1, hO1.mw, hD1.mw⟩))
  · obtain ⟨f9, hf9, hf90⟩ := hall2.2.2 hk0
    refine x_aload_n 5 1403 C0 dL_law_1402 rfl rfl rfl ?_
    refine x_iconst (v := 0) 1404 C0 dL_law_1403 rfl (by decide) ?_
    refine x_lald 3 1405 C0 dL_law_1404 rfl ((MW_ne (by omega)).trans hf9) rfl (by unfold vp_in; decide) ?_
    refine x_st (st1 := [.long (f9 0)]) rfl ?_
    refine x_iload 0 1407 C0 dL_law_1405 rfl rfl ?_
    refine x_i2l (v := (z2).toInt64) 1408 C0 dL_law_1407 rfl rfl ?_
    refine x_lcmpE 1409 C0 dL_law_1408 rfl hf90 ?_
    refine x_if_eq 1414 1412 C0 dL_law_1409 rfl (by decide) (fun _ => ?_) (fun z => absurd rfl z)
    refine x_goto 2017 C0 dL_law_1414 (by decide) ?_
    exact x_widen (k + 256) (q + 2500) (by omega) (by omega) (x_lv [2, 3, 4, 5, 6, 7] rfl (kk _ _ _ ⟨hall2.1, hO1.mw, hD1.mw⟩))
set_option maxHeartbeats 4000000 in
set_option maxRecDepth 100000 in
theorem law_c21 (hl : l.stackTraces = false) (C0 : xC p l s m args meth cD g cL_law 9 RL rt tb) (hX : va_X b L xs s s.heap) (hbl : b < s.heap.size) (hbA : ¬ xA g b) (hL : L ≤ 5) (i n k q B : Nat) (hi : i + 5 ≤ L) (hB : B ≤ 512) (hB0 : B = 0) (w : xw_T) (sz : Nat) (hI : LA g w sz n B) (hk : k + 256 ≤ 600006) (hq : q + 2500 ≤ 7302056) (kk : ∀ (w1 : xw_T) (sz1 n1 : Nat), LA g w1 sz1 n1 (B + 1) → xV p l e room_1 s m args below meth cD Q g 9 w1 sz1 (k + 256) (q + 2500) 2017 [(0, .ref b), (1, .ref (g.2 0)), (2, .ref (g.2 0 + 258)), (3, .ref (g.2 0 + 267)), (4, .ref (g.2 0 + 268)), (5, .int (nI i))] []) : xV p l e room_1 s m args below meth cD Q g 9 w sz k q 1417 [(0, .ref b), (1, .ref (g.2 0)), (2, .ref (g.2 0 + 258)), (3, .ref (g.2 0 + 267)), (4, .ref (g.2 0 + 268)), (5, .int (nI i))] [] := by
  obtain ⟨⟨x, la, t, tt, vb, sg, LN, LF, tm, v, bf, sv, pa, lb, td, sm, c0, hc0, hC, hT, hM, hJ, hA, hRI, hRR⟩, hO, hD⟩ := hI
  refine x_aload_n 1 1418 C0 dL_law_1417 rfl rfl rfl ?_
  refine x_callV 1421 C0 (f9_X7_reachedIn l hl g w sz n x la t tt vb sg hC) dL_law_1418 rfl mC_X7_reachedIn mM_L_200 mI_X7_reachedIn mV_X7_reachedIn mN_X7 yd_X7_reachedIn rfl rfl ⟨(Nat.le_of_ble_eq_true rfl), (Nat.le_of_ble_eq_true rfl)⟩ hC.1.1 rfl rfl rfl rfl (Nat.le_of_ble_eq_true rfl) ⟨by show k + 8 ≤ 600006; omega, by show q + 64 ≤ 7302056; omega⟩ (fun _ _ _ z => False.elim z) (fun r1 w1 sz1 _ hP1 => ?_)
  obtain ⟨hR1, hC1, hF1, hz1⟩ := hP1
  obtain ⟨k1, rfl⟩ := rI7_reachedIn hR1
  have hM1 := hM.wf (hF1.wf (a := 267)) (Or.inl rfl) hC.zz
  have hT1 := hT.wf (hF1.wf (a := 267)) (Or.inl rfl) hz1
  have hO1 := hO.xf hF1 hC.zz
  have hD1 := hD.wf hF1.wf hC.zz
  refine x_st (st1 := [.int k1]) rfl ?_
  refine x_aload_n 2 1422 C0 dL_law_1421 rfl rfl rfl ?_
  refine x_callV 1425 C0 (e_X8_reachedIn l hl g w1 sz1 n tm v bf sv pa lb sg td sm hM1 hJ) dL_law_1422 rfl mC_X8_reachedIn mM_L_203 mI_X8_reachedIn mV_X8_reachedIn mN_X8 yd_X8_reachedIn rfl rfl ⟨(Nat.le_of_ble_eq_true rfl), (Nat.le_of_ble_eq_true rfl)⟩ hM1.o rfl rfl rfl rfl (Nat.le_of_ble_eq_true rfl) ⟨by show k + 8 + 0 ≤ 600006; omega, by show q + 64 + 0 ≤ 7302056; omega⟩ (fun _ _ _ z => False.elim z) (fun r2 w2 sz2 _ hP2 => ?_)
  obtain ⟨rfl, tm2, lb2, rfl, hJ2, hL2, hQ2⟩ := hP2
  obtain ⟨z2, rfl⟩ := rI8_reachedIn hQ2
  have heq2 := Value.int.inj (Option.some.inj (rd_reachedIn hA.1 hQ2 hR1))
  have hall2 : AI g (MW g w1 tm2 v bf sv pa lb2 sg td sm) sz1 n (B + 1) := ⟨_, _, _, _, _, _, _, _, _, _, _, _, _, _, _, _, _, Nat.le_succ_of_le hc0, hC1.mw, hT1.mw, MR_MW, hJ2, (hA.tm (hL2 2 (by decide)) (hL2 7 (by decide))), hRI.tm (hL2 2 (by decide)) (by omega), fun h => absurd h (Nat.succ_ne_zero _)⟩
  refine x_st (st1 := [.int z2, .int k1]) rfl ?_
  refine x_icmp_eq 2017 1428 C0 dL_law_1425 rfl (by decide) (fun _ => ?_) (fun z => absurd heq2 z)
  exact x_widen (k + 256) (q + 2500) (by omega) (by omega) (x_lv [0, 1, 2, 3, 4, 5] rfl (kk _ _ _ ⟨hall2, hO1.mw, hD1.mw⟩))
set_option maxHeartbeats 4000000 in
set_option maxRecDepth 100000 in
theorem law_c22 (hl : l.stackTraces = false) (C0 : xC p l s m args meth cD g cL_law 9 RL rt tb) (hX : va_X b L xs s s.heap) (hbl : b < s.heap.size) (hbA : ¬ xA g b) (hL : L ≤ 5) (i n k q B : Nat) (hi : i + 5 ≤ L) (hB : B ≤ 512) (hB0 : B = 0) (w : xw_T) (sz : Nat) (hI : LA g w sz n B) (hk : k + 256 ≤ 600006) (hq : q + 2500 ≤ 7302056) (kk : ∀ (w1 : xw_T) (sz1 n1 : Nat), LA g w1 sz1 n1 (B + 1) → xV p l e room_1 s m args below meth cD Q g 9 w1 sz1 (k + 256) (q + 2500) 2017 [(0, .ref b), (1, .ref (g.2 0)), (2, .ref (g.2 0 + 258)), (3, .ref (g.2 0 + 267)), (4, .ref (g.2 0 + 268)), (5, .int (nI i))] []) : xV p l e room_1 s m args below meth cD Q g 9 w sz k q 1430 [(0, .ref b), (1, .ref (g.2 0)), (2, .ref (g.2 0 + 258)), (3, .ref (g.2 0 + 267)), (4, .ref (g.2 0 + 268)), (5, .int (nI i))] [] := by
  obtain ⟨⟨x, la, t, tt, vb, sg, LN, LF, tm, v, bf, sv, pa, lb, td, sm, c0, hc0, hC, hT, hM, hJ, hA, hRI, hRR⟩, hO, hD⟩ := hI
  refine x_aload_n 1 1431 C0 dL_law_1430 rfl rfl rfl ?_
  refine x_aload_n 0 1432 C0 dL_law_1431 rfl rfl rfl ?_
  refine x_iload 5 1434 C0 dL_law_1432 rfl rfl ?_
  refine x_iconst (v := 1) 1435 C0 dL_law_1434 rfl (by decide) ?_
  refine x_iadd 1436 C0 dL_law_1435 rfl ?_
  refine x_st (st1 := [.int (nI (i + 1)), .ref b, .ref (g.2 0)]) (congrArg (fun z => Value.int z :: _) (nI_add i 1)) ?_
  refine x_sld 1437 C0 hX hbl hbA (vp_in_nI (n := i + 1) (by omega) (by omega)) dL_law_1436 rfl ?_
  refine x_aload_n 3 1438 C0 dL_law_1437 rfl rfl rfl ?_
  refine x_callSH 1441 C0 (e_L_setHumidity l hl g w sz n x la t tt vb sg hC hO ((xs (nI (i + 1)).toNatClampNeg))) dL_law_1438 rfl mC_L_setHumidity mM_L_204 mS_L_setHumidity mN_L yd_L_setHumidity rfl rfl ⟨(Nat.le_of_ble_eq_true rfl), (Nat.le_of_ble_eq_true rfl)⟩ rfl rfl (Nat.le_of_ble_eq_true rfl) ⟨by show k + 8 ≤ 600006; omega, by show q + 64 ≤ 7302056; omega⟩ (fun _ _ _ z => False.elim z) (fun r1 w1 sz1 _ hP1 => ?_)
  obtain ⟨k1, x1, la1, t1, rfl, hz1, hF1, hC1, hd1⟩ := hP1
  have hO1 : wO g w1 := by
    rcases hd1 with ⟨-, v9, f9, -, h9, -⟩ | ⟨h9, -⟩
    · exact ⟨f9, h9⟩
    · exact h9
  have hM1 := hM.wf hF1 (Or.inl rfl) hC.zz
  have hT1 := hT.wf hF1 (Or.inl rfl) hz1
  have hD1 := hD.wf hF1 hC.zz
  refine x_st (st1 := [.int k1]) rfl ?_
  refine x_istore [(6, .int k1), (0, .ref b), (1, .ref (g.2 0)), (2, .ref (g.2 0 + 258)), (3, .ref (g.2 0 + 267)), (4, .ref (g.2 0 + 268)), (5, .int (nI i))] 1443 C0 dL_law_1441 rfl (by decide) rfl ?_
  refine x_aload_n 3 1444 C0 dL_law_1443 rfl rfl rfl ?_
  refine x_aload_n 1 1445 C0 dL_law_1444 rfl rfl rfl ?_
  refine x_iload 6 1447 C0 dL_law_1445 rfl rfl ?_
  refine x_iconst (v := 1) 1448 C0 dL_law_1447 rfl (by decide) ?_
  refine x_iadd 1449 C0 dL_law_1448 rfl ?_
  refine x_st (st1 := [.int (nI (i + 1)), .ref b, .ref (g.2 0 + 258)]) (congrArg (fun z => Value.int z :: _) (nI_add i 1)) ?_
  refine x_sld 1450 C0 hX hbl hbA (vp_in_nI (n := i + 1) (by omega) (by omega)) dL_law_1449 rfl ?_
  refine x_callV 1453 C0 (k_X8_setHumidity l hl g w1 sz1 n tm v bf sv pa lb sg td sm hM1 hJ ((xs (nI (i + 1)).toNatClampNeg))) dL_law_1450 rfl mC_X8_setHumidity mM_L_206 mI_X8_setHumidity mV_X8_setHumidity mN_X8 yd_X8_setHumidity rfl rfl ⟨(Nat.le_of_ble_eq_true rfl), (Nat.le_of_ble_eq_true rfl)⟩ hM1.o rfl rfl rfl rfl (Nat.le_of_ble_eq_true rfl) ⟨by show k + 8 + 0 ≤ 600006; omega, by show q + 64 + 0 ≤ 7302056; omega⟩ (fun _ _ _ z => False.elim z) (fun r2 w2 sz2 _ hP2 => ?_)
  obtain ⟨rfl, tm2, v2, bf2, pa2, lb2, rfl, hJ2, h72, hQ2⟩ := hP2
  obtain ⟨z2, rfl⟩ := cP_r hQ2
  have hall2 : AI g (MW g w1 tm2 v2 bf2 sv pa2 lb2 sg td sm) sz1 n (B + 1) ∧ tm2 0 = k1 ∧ (k1 = 0 → ∃ f, wOf g w1 f ∧ f 0 = Int32.toInt64 z2) := by
    rcases hd1 with ⟨hk9, v9, f9, hL9, ho9, hf9⟩ | ⟨-, E9, hX9, hk9⟩
    · obtain ⟨hr9, hz9, c9, LN9, LF9, hc9, hT9, hA9⟩ := al_setHumidity_y ((xs (nI (i + 1)).toNatClampNeg)) hA hT1 hC.k0 (by omega) h72 hQ2 hL9
      exact ⟨⟨_, _, _, _, _, _, _, _, _, _, _, _, _, _, _, _, _, Nat.le_trans hc9 (by omega), hC1.mw, hT9.mw, MR_MW, hJ2, hA9, ri_setHumidity hRI hQ2, fun h => absurd h (Nat.succ_ne_zero _)⟩, hz9.trans hk9.symm, fun _ => ⟨f9, ho9, hf9.trans (congrArg Int32.toInt64 (Value.int.inj (Option.some.inj hr9)))⟩⟩
    · obtain ⟨hz9, c9, LN9, LF9, hc9, hT9, hA9⟩ := al_setHumidity_n ((xs (nI (i + 1)).toNatClampNeg)) hA hT1 hC.k0 (by omega) h72 hQ2 hX9
      exact ⟨⟨_, _, _, _, _, _, _, _, _, _, _, _, _, _, _, _, _, Nat.le_trans hc9 (by omega), hC1.mw, hT9.mw, MR_MW, hJ2, hA9, ri_setHumidity hRI hQ2, fun h => absurd h (Nat.succ_ne_zero _)⟩, hz9.trans hk9.symm, fun z => absurd (hk9.symm.trans z) (kc_setHumidity hX9)⟩
  refine x_st (st1 := [.int z2]) rfl ?_
  refine x_istore [(7, .int z2), (6, .int k1), (0, .ref b), (1, .ref (g.2 0)), (2, .ref (g.2 0 + 258)), (3, .ref (g.2 0 + 267)), (4, .ref (g.2 0 + 268)), (5, .int (nI i))] 1455 C0 dL_law_1453 rfl (by decide) rfl ?_
  refine x_aload_n 4 1456 C0 dL_law_1455 rfl rfl rfl ?_
  refine x_callV 1459 C0 (k_X8_thrown l hl g (MW g w1 tm2 v2 bf2 sv pa2 lb2 sg td sm) sz1 n tm2 v2 bf2 sv pa2 lb2 sg td sm MR_MW hJ2) dL_law_1456 rfl mC_X8_thrown mM_L_130 mI_X8_thrown mV_X8_thrown mN_X8 yd_X8_thrown rfl rfl ⟨(Nat.le_of_ble_eq_true rfl), (Nat.le_of_ble_eq_true rfl)⟩ MR_MW.o rfl rfl rfl rfl (Nat.le_of_ble_eq_true rfl) ⟨by show k + 8 + 0 + 0 ≤ 600006; omega, by show q + 64 + 0 + 0 ≤ 7302056; omega⟩ (fun _ _ _ z => False.elim z) (fun r3 w3 sz3 _ hP3 => ?_)
  obtain ⟨rfl, rfl, rfl⟩ := hP3
  refine x_st (st1 := [.int (tm2 0)]) rfl ?_
  refine x_iload 1 1461 C0 dL_law_1459 rfl rfl ?_
  refine x_icmp_eq 1466 1464 C0 dL_law_1461 rfl (by decide) (fun _ => ?_) (fun z => absurd hall2.2.1 z)
  refine x_iload 1 1468 C0 dL_law_1466 rfl rfl ?_
  refine x_if_ne 1483 1471 C0 dL_law_1468 rfl (by decide) (fun _ => ?_) (fun hk0 => ?_)
  · skip
    refine x_goto 2017 C0 dL_law_1483 (by decide) ?_
    exact x_widen (k + 256) (q + 2500) (by omega) (by omega) (x_lv [2, 3, 4, 5, 6, 7] rfl (kk _ _ _ ⟨hall2.1, hO1.mw, hD1.mw⟩))
  · obtain ⟨f9, hf9, hf90⟩ := hall2.2.2 hk0
    refine x_aload_n 5 1472 C0 dL_law_1471 rfl rfl rfl ?_
    refine x_iconst (v := 0) 1473 C0 dL_law_1472 rfl (by decide) ?_
    refine x_lald 3 1474 C0 dL_law_1473 rfl ((MW_ne (by omega)).trans hf9) rfl (by unfold vp_in; decide) ?_
    refine x_st (st1 := [.long (f9 0)]) rfl ?_
    refine x_iload 0 1476 C0 dL_law_1474 rfl rfl ?_
    refine x_i2l (v := (z2).toInt64) 1477 C0 dL_law_1476 rfl rfl ?_
    refine x_lcmpE 1478 C0 dL_law_1477 rfl hf90 ?_
    refine x_if_eq 1483 1481 C0 dL_law_1478 rfl (by decide) (fun _ => ?_) (fun z => absurd rfl z)
    refine x_goto 2017 C0 dL_law_1483 (by decide) ?_
    exact x_widen (k + 256) (q + 2500) (by omega) (by omega) (x_lv [2, 3, 4, 5, 6, 7] rfl (kk _ _ _ ⟨hall2.1, hO1.mw, hD1.mw⟩))
set_option maxHeartbeats 4000000 in
set_option maxRecDepth 100000 in
theorem law_c23 (hl : l.stackTraces = false) (C0 : xC p l s m args meth cD g cL_law 9 RL rt tb) (hX : va_X b L xs s s.heap) (hbl : b < s.heap.size) (hbA : ¬ xA g b) (hL : L ≤ 5) (i n k q B : Nat) (hi : i + 5 ≤ L) (hB : B ≤ 512) (hB0 : B = 0) (w : xw_T) (sz : Nat) (hI : LA g w sz n B) (hk : k + 256 ≤ 600006) (hq : q + 2500 ≤ 7302056) (kk : ∀ (w1 : xw_T) (sz1 n1 : Nat), LA g w1 sz1 n1 (B + 1) → xV p l e room_1 s m args below meth cD Q g 9 w1 sz1 (k + 256) (q + 2500) 2017 [(0, .ref b), (1, .ref (g.2 0)), (2, .ref (g.2 0 + 258)), (3, .ref (g.2 0 + 267)), (4, .ref (g.2 0 + 268)), (5, .int (nI i))] []) : xV p l e room_1 s m args below meth cD Q g 9 w sz k q 1486 [(0, .ref b), (1, .ref (g.2 0)), (2, .ref (g.2 0 + 258)), (3, .ref (g.2 0 + 267)), (4, .ref (g.2 0 + 268)), (5, .int (nI i))] [] := by
  obtain ⟨⟨x, la, t, tt, vb, sg, LN, LF, tm, v, bf, sv, pa, lb, td, sm, c0, hc0, hC, hT, hM, hJ, hA, hRI, hRR⟩, hO, hD⟩ := hI
  refine x_aload_n 1 1487 C0 dL_law_1486 rfl rfl rfl ?_
  refine x_aload_n 0 1488 C0 dL_law_1487 rfl rfl rfl ?_
  refine x_iload 5 1490 C0 dL_law_1488 rfl rfl ?_
  refine x_iconst (v := 1) 1491 C0 dL_law_1490 rfl (by decide) ?_
  refine x_iadd 1492 C0 dL_law_1491 rfl ?_
  refine x_st (st1 := [.int (nI (i + 1)), .ref b, .ref (g.2 0)]) (congrArg (fun z => Value.int z :: _) (nI_add i 1)) ?_
  refine x_sld 1493 C0 hX hbl hbA (vp_in_nI (n := i + 1) (by omega) (by omega)) dL_law_1492 rfl ?_
  refine x_aload_n 3 1494 C0 dL_law_1493 rfl rfl rfl ?_
  refine x_callSH 1497 C0 (e_L_pass l hl g w sz n x la t tt vb sg hC hO ((xs (nI (i + 1)).toNatClampNeg))) dL_law_1494 rfl mC_L_pass mM_L_207 mS_L_pass mN_L yd_L_pass rfl rfl ⟨(Nat.le_of_ble_eq_true rfl), (Nat.le_of_ble_eq_true rfl)⟩ rfl rfl (Nat.le_of_ble_eq_true rfl) ⟨by show k + 8 ≤ 600006; omega, by show q + 64 ≤ 7302056; omega⟩ (fun _ _ _ z => False.elim z) (fun r1 w1 sz1 _ hP1 => ?_)
  obtain ⟨k1, x1, la1, t1, rfl, hz1, hF1, hC1, hd1⟩ := hP1
  have hO1 : wO g w1 := by
    rcases hd1 with ⟨-, v9, f9, -, h9, -⟩ | ⟨h9, -⟩
    · exact ⟨f9, h9⟩
    · exact h9
  have hM1 := hM.wf hF1 (Or.inl rfl) hC.zz
  have hT1 := hT.wf hF1 (Or.inl rfl) hz1
  have hD1 := hD.wf hF1 hC.zz
  refine x_st (st1 := [.int k1]) rfl ?_
  refine x_istore [(6, .int k1), (0, .ref b), (1, .ref (g.2 0)), (2, .ref (g.2 0 + 258)), (3, .ref (g.2 0 + 267)), (4, .ref (g.2 0 + 268)), (5, .int (nI i))] 1499 C0 dL_law_1497 rfl (by decide) rfl ?_
  refine x_aload_n 3 1500 C0 dL_law_1499 rfl rfl rfl ?_
  refine x_aload_n 1 1501 C0 dL_law_1500 rfl rfl rfl ?_
  refine x_iload 6 1503 C0 dL_law_1501 rfl rfl ?_
  refine x_iconst (v := 1) 1504 C0 dL_law_1503 rfl (by decide) ?_
  refine x_iadd 1505 C0 dL_law_1504 rfl ?_
  refine x_st (st1 := [.int (nI (i + 1)), .ref b, .ref (g.2 0 + 258)]) (congrArg (fun z => Value.int z :: _) (nI_add i 1)) ?_
  refine x_sld 1506 C0 hX hbl hbA (vp_in_nI (n := i + 1) (by omega) (by omega)) dL_law_1505 rfl ?_
  refine x_callV 1509 C0 (k_X8_pass l hl g w1 sz1 n tm v bf sv pa lb sg td sm hM1 hJ ((xs (nI (i + 1)).toNatClampNeg))) dL_law_1506 rfl mC_X8_pass mM_L_209 mI_X8_pass mV_X8_pass mN_X8 yd_X8_pass rfl rfl ⟨(Nat.le_of_ble_eq_true rfl), (Nat.le_of_ble_eq_true rfl)⟩ hM1.o rfl rfl rfl rfl (Nat.le_of_ble_eq_true rfl) ⟨by show k + 8 + 0 ≤ 600006; omega, by show q + 64 + 0 ≤ 7302056; omega⟩ (fun _ _ _ z => False.elim z) (fun r2 w2 sz2 _ hP2 => ?_)
  obtain ⟨rfl, tm2, v2, bf2, pa2, lb2, rfl, hJ2, h72, hQ2⟩ := hP2
  obtain ⟨z2, rfl⟩ := cP_r hQ2
  have hall2 : AI g (MW g w1 tm2 v2 bf2 sv pa2 lb2 sg td sm) sz1 n (B + 1) ∧ tm2 0 = k1 ∧ (k1 = 0 → ∃ f, wOf g w1 f ∧ f 0 = Int32.toInt64 z2) := by
    rcases hd1 with ⟨hk9, v9, f9, hL9, ho9, hf9⟩ | ⟨-, E9, hX9, hk9⟩
    · obtain ⟨hr9, hz9, c9, LN9, LF9, hc9, hT9, hA9⟩ := al_pass_y ((xs (nI (i + 1)).toNatClampNeg)) hA hT1 hC.k0 (by omega) h72 hQ2 hL9
      exact ⟨⟨_, _, _, _, _, _, _, _, _, _, _, _, _, _, _, _, _, Nat.le_trans hc9 (by omega), hC1.mw, hT9.mw, MR_MW, hJ2, hA9, ri_pass hRI hQ2, fun h => absurd h (Nat.succ_ne_zero _)⟩, hz9.trans hk9.symm, fun _ => ⟨f9, ho9, hf9.trans (congrArg Int32.toInt64 (Value.int.inj (Option.some.inj hr9)))⟩⟩
    · obtain ⟨hz9, c9, LN9, LF9, hc9, hT9, hA9⟩ := al_pass_n ((xs (nI (i + 1)).toNatClampNeg)) hA hT1 hC.k0 (by omega) h72 hQ2 hX9
      exact ⟨⟨_, _, _, _, _, _, _, _, _, _, _, _, _, _, _, _, _, Nat.le_trans hc9 (by omega), hC1.mw, hT9.mw, MR_MW, hJ2, hA9, ri_pass hRI hQ2, fun h => absurd h (Nat.succ_ne_zero _)⟩, hz9.trans hk9.symm, fun z => absurd (hk9.symm.trans z) (kc_pass hX9)⟩
  refine x_st (st1 := [.int z2]) rfl ?_
  refine x_istore [(7, .int z2), (6, .int k1), (0, .ref b), (1, .ref (g.2 0)), (2, .ref (g.2 0 + 258)), (3, .ref (g.2 0 + 267)), (4, .ref (g.2 0 + 268)), (5, .int (nI i))] 1511 C0 dL_law_1509 rfl (by decide) rfl ?_
  refine x_aload_n 4 1512 C0 dL_law_1511 rfl rfl rfl ?_
  refine x_callV 1515 C0 (k_X8_thrown l hl g (MW g w1 tm2 v2 bf2 sv pa2 lb2 sg td sm) sz1 n tm2 v2 bf2 sv pa2 lb2 sg td sm MR_MW hJ2) dL_law_1512 rfl mC_X8_thrown mM_L_130 mI_X8_thrown mV_X8_thrown mN_X8 yd_X8_thrown rfl rfl ⟨(Nat.le_of_ble_eq_true rfl), (Nat.le_of_ble_eq_true rfl)⟩ MR_MW.o rfl rfl rfl rfl (Nat.le_of_ble_eq_true rfl) ⟨by show k + 8 + 0 + 0 ≤ 600006; omega, by show q + 64 + 0 + 0 ≤ 7302056; omega⟩ (fun _ _ _ z => False.elim z) (fun r3 w3 sz3 _ hP3 => ?_)
  obtain ⟨rfl, rfl, rfl⟩ := hP3
  refine x_st (st1 := [.int (tm2 0)]) rfl ?_
  refine x_iload 1 1517 C0 dL_law_1515 rfl rfl ?_
  refine x_icmp_eq 1522 1520 C0 dL_law_1517 rfl (by decide) (fun _ => ?_) (fun z => absurd hall2.2.1 z)
  refine x_iload 1 1524 C0 dL_law_1522 rfl rfl ?_
  refine x_if_ne 1539 1527 C0 dL_law_1524 rfl (by decide) (fun _ => ?_) (fun hk0 => ?_)
  · skip
    refine x_goto 2017 C0 dL_law_1539 (by decide) ?_
    exact x_widen (k + 256) (q + 2500) (by omega) (by omega) (x_lv [2, 3, 4, 5, 6, 7] rfl (kk _ _ _ ⟨hall2.1, hO1.mw, hD1.mw⟩))
  · obtain ⟨f9, hf9, hf90⟩ := hall2.2.2 hk0
    refine x_aload_n 5 1528 C0 dL_law_1527 rfl rfl rfl ?_
    refine x_iconst (v := 0) 1529 C0 dL_law_1528 rfl (by decide) ?_
    refine x_lald 3 1530 C0 dL_law_1529 rfl ((MW_ne (by omega)).trans hf9) rfl (by unfold vp_in; decide) ?_
    refine x_st (st1 := [.long (f9 0)]) rfl ?_
    refine x_iload 0 1532 C0 dL_law_1530 rfl rfl ?_
    refine x_i2l (v := (z2).toInt64) 1533 C0 dL_law_1532 rfl rfl ?_
    refine x_lcmpE 1534 C0 dL_law_1533 rfl hf90 ?_
    refine x_if_eq 1539 1537 C0 dL_law_1534 rfl (by decide) (fun _ => ?_) (fun z => absurd rfl z)
    refine x_goto 2017 C0 dL_law_1539 (by decide) ?_
    exact x_widen (k + 256) (q + 2500) (by omega) (by omega) (x_lv [2, 3, 4, 5, 6, 7] rfl (kk _ _ _ ⟨hall2.1, hO1.mw, hD1.mw⟩))
set_option maxHeartbeats 4000000 in
set_option maxRecDepth 100000 in
theorem law_c24 (hl : l.stackTraces = false) (C0 : xC p l s m args meth cD g cL_law 9 RL rt tb) (hX : va_X b L xs s s.heap) (hbl : b < s.heap.size) (hbA : ¬ xA g b) (hL : L ≤ 5) (i n k q B : Nat) (hi : i + 5 ≤ L) (hB : B ≤ 512) (hB0 : B = 0) (w : xw_T) (sz : Nat) (hI : LA g w sz n B) (hk : k + 256 ≤ 600006) (hq : q + 2500 ≤ 7302056) (kk : ∀ (w1 : xw_T) (sz1 n1 : Nat), LA g w1 sz1 n1 (B + 1) → xV p l e room_1 s m args below meth cD Q g 9 w1 sz1 (k + 256) (q + 2500) 2017 [(0, .ref b), (1, .ref (g.2 0)), (2, .ref (g.2 0 + 258)), (3, .ref (g.2 0 + 267)), (4, .ref (g.2 0 + 268)), (5, .int (nI i))] []) : xV p l e room_1 s m args below meth cD Q g 9 w sz k q 1542 [(0, .ref b), (1, .ref (g.2 0)), (2, .ref (g.2 0 + 258)), (3, .ref (g.2 0 + 267)), (4, .ref (g.2 0 + 268)), (5, .int (nI i))] [] := by
  obtain ⟨⟨x, la, t, tt, vb, sg, LN, LF, tm, v, bf, sv, pa, lb, td, sm, c0, hc0, hC, hT, hM, hJ, hA, hRI, hRR⟩, hO, hD⟩ := hI
  refine x_aload_n 1 1543 C0 dL_law_1542 rfl rfl rfl ?_
  refine x_callV 1546 C0 (f9_X7_isWell l hl g w sz n x la t tt vb sg hC (LN 0) (LF 0) (hT 0 (by omega))) dL_law_1543 rfl mC_X7_isWell mM_L_210 mI_X7_isWell mV_X7_isWell mN_X7 yd_X7_isWell rfl rfl ⟨(Nat.le_of_ble_eq_true rfl), (Nat.le_of_ble_eq_true rfl)⟩ hC.1.1 rfl rfl rfl rfl (Nat.le_of_ble_eq_true rfl) ⟨by show k + 8 ≤ 600006; omega, by show q + 64 ≤ 7302056; omega⟩ (fun _ _ _ z => False.elim z) (fun r1 w1 sz1 _ hP1 => ?_)
  obtain ⟨hR1, hC1, hF1, hz1⟩ := hP1
  obtain ⟨k1, rfl⟩ := rI7_isWell hR1
  have hM1 := hM.wf (hF1.wf (a := 267)) (Or.inl rfl) hC.zz
  have hT1 := hT.wf (hF1.wf (a := 267)) (Or.inl rfl) hz1
  have hO1 := hO.xf hF1 hC.zz
  have hD1 := hD.wf hF1.wf hC.zz
  refine x_st (st1 := [.int k1]) rfl ?_
  refine x_aload_n 2 1547 C0 dL_law_1546 rfl rfl rfl ?_
  refine x_callV 1550 C0 (e_X8_isWell l hl g w1 sz1 n tm v bf sv pa lb sg td sm hM1 hJ) dL_law_1547 rfl mC_X8_isWell mM_L_214 mI_X8_isWell mV_X8_isWell mN_X8 yd_X8_isWell rfl rfl ⟨(Nat.le_of_ble_eq_true rfl), (Nat.le_of_ble_eq_true rfl)⟩ hM1.o rfl rfl rfl rfl (Nat.le_of_ble_eq_true rfl) ⟨by show k + 8 + 0 ≤ 600006; omega, by show q + 64 + 0 ≤ 7302056; omega⟩ (fun _ _ _ z => False.elim z) (fun r2 w2 sz2 _ hP2 => ?_)
  obtain ⟨rfl, tm2, lb2, rfl, hJ2, hL2, hQ2⟩ := hP2
  obtain ⟨z2, rfl⟩ := rI8_isWell hQ2
  have heq2 := Value.int.inj (Option.some.inj (rd_isWell hA.1 hC.k0 hQ2 hR1))
  have hall2 : AI g (MW g w1 tm2 v bf sv pa lb2 sg td sm) sz1 n (B + 1) := ⟨_, _, _, _, _, _, _, _, _, _, _, _, _, _, _, _, _, Nat.le_succ_of_le hc0, hC1.mw, hT1.mw, MR_MW, hJ2, (hA.tm (hL2 2 (by decide)) (hL2 7 (by decide))), hRI.tm (hL2 2 (by decide)) (by omega), fun h => absurd h (Nat.succ_ne_zero _)⟩
  refine x_st (st1 := [.int z2, .int k1]) rfl ?_
  refine x_icmp_eq 2017 1553 C0 dL_law_1550 rfl (by decide) (fun _ => ?_) (fun z => absurd heq2 z)
  exact x_widen (k + 256) (q + 2500) (by omega) (by omega) (x_lv [0, 1, 2, 3, 4, 5] rfl (kk _ _ _ ⟨hall2, hO1.mw, hD1.mw⟩))
set_option maxHeartbeats 4000000 in
set_option maxRecDepth 100000 in
theorem law_c25 (hl : l.stackTraces = false) (C0 : xC p l s m args meth cD g cL_law 9 RL rt tb) (hX : va_X b L xs s s.heap) (hbl : b < s.heap.size) (hbA : ¬ xA g b) (hL : L ≤ 5) (i n k q B : Nat) (hi : i + 5 ≤ L) (hB : B ≤ 512) (hB0 : B = 0) (w : xw_T) (sz : Nat) (hI : LA g w sz n B) (hk : k + 256 ≤ 600006) (hq : q + 2500 ≤ 7302056) (kk : ∀ (w1 : xw_T) (sz1 n1 : Nat), LA g w1 sz1 n1 (B + 1) → xV p l e room_1 s m args below meth cD Q g 9 w1 sz1 (k + 256) (q + 2500) 2017 [(0, .ref b), (1, .ref (g.2 0)), (2, .ref (g.2 0 + 258)), (3, .ref (g.2 0 + 267)), (4, .ref (g.2 0 + 268)), (5, .int (nI i))] []) : xV p l e room_1 s m args below meth cD Q g 9 w sz k q 1555 [(0, .ref b), (1, .ref (g.2 0)), (2, .ref (g.2 0 + 258)), (3, .ref (g.2 0 + 267)), (4, .ref (g.2 0 + 268)), (5, .int (nI i))] [] := by
  obtain ⟨⟨x, la, t, tt, vb, sg, LN, LF, tm, v, bf, sv, pa, lb, td, sm, c0, hc0, hC, hT, hM, hJ, hA, hRI, hRR⟩, hO, hD⟩ := hI
  refine x_aload_n 1 1556 C0 dL_law_1555 rfl rfl rfl ?_
  refine x_aload 4 1558 C0 dL_law_1556 rfl rfl ?_
  refine x_callSH 1561 C0 (e_L_meanDamp l hl g w sz n x la t tt vb sg hC hD) dL_law_1558 rfl mC_L_meanDamp mM_L_215 mS_L_meanDamp mN_L yd_L_meanDamp rfl rfl ⟨(Nat.le_of_ble_eq_true rfl), (Nat.le_of_ble_eq_true rfl)⟩ rfl rfl (Nat.le_of_ble_eq_true rfl) ⟨by show k + 8 ≤ 600006; omega, by show q + 64 ≤ 7302056; omega⟩ (fun _ _ _ z => False.elim z) (fun r1 w1 sz1 _ hP1 => ?_)
  obtain ⟨⟨k1, rfl⟩, hz1, hF1, hD1, hC1, hd1⟩ := hP1
  have hM1 := hM.wf hF1 (Or.inr rfl) hC.zz
  have hT1 := hT.wf hF1 (Or.inr rfl) hz1
  have hO1 := hO.wf hF1 hC.zz
  refine x_st (st1 := [.int k1]) rfl ?_
  refine x_istore [(6, .int k1), (0, .ref b), (1, .ref (g.2 0)), (2, .ref (g.2 0 + 258)), (3, .ref (g.2 0 + 267)), (4, .ref (g.2 0 + 268)), (5, .int (nI i))] 1563 C0 dL_law_1561 rfl (by decide) rfl ?_
  refine x_aload_n 3 1564 C0 dL_law_1563 rfl rfl rfl ?_
  refine x_callV 1567 C0 (e_X8_meanDamp l hl g w1 sz1 n tm v bf sv pa lb sg td sm hM1 hJ) dL_law_1564 rfl mC_X8_meanDamp mM_L_218 mI_X8_meanDamp mV_X8_meanDamp mN_X8 yd_X8_meanDamp rfl rfl ⟨(Nat.le_of_ble_eq_true rfl), (Nat.le_of_ble_eq_true rfl)⟩ hM1.o rfl rfl rfl rfl (Nat.le_of_ble_eq_true rfl) ⟨by show k + 8 + 0 ≤ 600006; omega, by show q + 64 + 0 ≤ 7302056; omega⟩ (fun _ _ _ z => False.elim z) (fun r2 w2 sz2 _ hP2 => ?_)
  obtain ⟨rfl, tm2, lb2, rfl, hJ2, hL2, hQ2⟩ := hP2
  obtain ⟨⟨z2, rfl⟩, hQ2⟩ := hQ2
  have hall2 : AI g (MW g w1 tm2 v bf sv pa lb2 sg td sm) sz1 n (B + 1) ∧ tm2 0 = k1 ∧ (k1 = 0 → ∃ f : Nat → UInt64, w1 (g.2 0 + 268) = some (dE g f) ∧ f 0 = z2 ∧ vf_n64 (f 0)) := by
    rcases hd1 with ⟨hk9, f9, hf9, h06, hz9⟩ | ⟨hk9, h06⟩
    · obtain rfl := Value.int.inj (Option.some.inj hk9)
      obtain ⟨q1, q2, q3⟩ := rd_meanDamp_y hA.1 hC.k0 hRI h06 hQ2
      exact ⟨⟨_, _, _, _, _, _, _, _, _, _, _, _, _, _, _, _, _, Nat.le_succ_of_le hc0, hC1.mw, hT1.mw, MR_MW, hJ2, (hA.tm (hL2 2 (by decide)) (hL2 7 (by decide))), hRI.tm (hL2 2 (by decide)) (by omega), fun h => absurd h (Nat.succ_ne_zero _)⟩, q1, fun _ => ⟨f9, hf9, hz9.trans q2, by rw [hz9]; exact q3⟩⟩
    · obtain rfl := Value.int.inj (Option.some.inj hk9)
      exact ⟨⟨_, _, _, _, _, _, _, _, _, _, _, _, _, _, _, _, _, Nat.le_succ_of_le hc0, hC1.mw, hT1.mw, MR_MW, hJ2, (hA.tm (hL2 2 (by decide)) (hL2 7 (by decide))), hRI.tm (hL2 2 (by decide)) (by omega), fun h => absurd h (Nat.succ_ne_zero _)⟩, rd_meanDamp_n hA.1 hC.k0 hRI h06 hQ2, fun z => absurd z (by decide)⟩
  refine x_st (st1 := [.double z2]) rfl ?_
  refine x_dstore [(7, .double z2), (6, .int k1), (0, .ref b), (1, .ref (g.2 0)), (2, .ref (g.2 0 + 258)), (3, .ref (g.2 0 + 267)), (4, .ref (g.2 0 + 268)), (5, .int (nI i))] 1569 C0 dL_law_1567 rfl (by decide) rfl ?_
  refine x_aload_n 4 1570 C0 dL_law_1569 rfl rfl rfl ?_
  refine x_callV 1573 C0 (k_X8_thrown l hl g (MW g w1 tm2 v bf sv pa lb2 sg td sm) sz1 n tm2 v bf sv pa lb2 sg td sm MR_MW hJ2) dL_law_1570 rfl mC_X8_thrown mM_L_130 mI_X8_thrown mV_X8_thrown mN_X8 yd_X8_thrown rfl rfl ⟨(Nat.le_of_ble_eq_true rfl), (Nat.le_of_ble_eq_true rfl)⟩ MR_MW.o rfl rfl rfl rfl (Nat.le_of_ble_eq_true rfl) ⟨by show k + 8 + 0 + 0 ≤ 600006; omega, by show q + 64 + 0 + 0 ≤ 7302056; omega⟩ (fun _ _ _ z => False.elim z) (fun r3 w3 sz3 _ hP3 => ?_)
  obtain ⟨rfl, rfl, rfl⟩ := hP3
  refine x_st (st1 := [.int (tm2 0)]) rfl ?_
  refine x_iload 1 1575 C0 dL_law_1573 rfl rfl ?_
  refine x_icmp_eq 1580 1578 C0 dL_law_1575 rfl (by decide) (fun _ => ?_) (fun z => absurd hall2.2.1 z)
  refine x_iload 1 1582 C0 dL_law_1580 rfl rfl ?_
  refine x_if_ne 1617 1585 C0 dL_law_1582 rfl (by decide) (fun _ => ?_) (fun hk0 => ?_)
  · skip
    refine x_goto 2017 C0 dL_law_1617 (by decide) ?_
    exact x_widen (k + 256) (q + 2500) (by omega) (by omega) (x_lv [2, 3, 4, 5, 6, 7] rfl (kk _ _ _ ⟨hall2.1, hO1.mw, hD1.mw⟩))
  · obtain ⟨f9, hf9, hf90, hf91⟩ := hall2.2.2 hk0
    refine x_aload 6 1587 C0 dL_law_1585 rfl rfl ?_
    refine x_iconst (v := 0) 1588 C0 dL_law_1587 rfl (by decide) ?_
    refine x_dald 4 1589 C0 dL_law_1588 rfl ((MW_ne (by omega)).trans hf9) rfl (by unfold vp_in; decide) ?_
    refine x_st (st1 := [.double (f9 0)]) rfl ?_
    refine x_dload 0 1591 C0 dL_law_1589 rfl rfl ?_
    refine x_dcmpE 1592 C0 dL_law_1591 rfl hf90 hf91 ?_
    refine x_if_eq 1617 1595 C0 dL_law_1592 rfl (by decide) (fun _ => ?_) (fun z => absurd rfl z)
    refine x_goto 2017 C0 dL_law_1617 (by decide) ?_
    exact x_widen (k + 256) (q + 2500) (by omega) (by omega) (x_lv [2, 3, 4, 5, 6, 7] rfl (kk _ _ _ ⟨hall2.1, hO1.mw, hD1.mw⟩))
set_option maxHeartbeats 4000000 in
set_option maxRecDepth 100000 in
theorem law_c26 (hl : l.stackTraces = false) (C0 : xC p l s m args meth cD g cL_law 9 RL rt tb) (hX : va_X b L xs s s.heap) (hbl : b < s.heap.size) (hbA : ¬ xA g b) (hL : L ≤ 5) (i n k q B : Nat) (hi : i + 5 ≤ L) (hB : B ≤ 512) (hB0 : B = 0) (w : xw_T) (sz : Nat) (hI : LA g w sz n B) (hk : k + 256 ≤ 600006) (hq : q + 2500 ≤ 7302056) (kk : ∀ (w1 : xw_T) (sz1 n1 : Nat), LA g w1 sz1 n1 (B + 1) → xV p l e room_1 s m args below meth cD Q g 9 w1 sz1 (k + 256) (q + 2500) 2017 [(0, .ref b), (1, .ref (g.2 0)), (2, .ref (g.2 0 + 258)), (3, .ref (g.2 0 + 267)), (4, .ref (g.2 0 + 268)), (5, .int (nI i))] []) : xV p l e room_1 s m args below meth cD Q g 9 w sz k q 1620 [(0, .ref b), (1, .ref (g.2 0)), (2, .ref (g.2 0 + 258)), (3, .ref (g.2 0 + 267)), (4, .ref (g.2 0 + 268)), (5, .int (nI i))] [] := by
  obtain ⟨⟨x, la, t, tt, vb, sg, LN, LF, tm, v, bf, sv, pa, lb, td, sm, c0, hc0, hC, hT, hM, hJ, hA, hRI, hRR⟩, hO, hD⟩ := hI
  refine x_aload_n 1 1621 C0 dL_law_1620 rfl rfl rfl ?_
  refine x_aload 4 1623 C0 dL_law_1621 rfl rfl ?_
  refine x_callSH 1626 C0 (e_L_sailedShare l hl g w sz n x la t tt vb sg hC hD) dL_law_1623 rfl mC_L_sailedShare mM_L_219 mS_L_sailedShare mN_L yd_L_sailedShare rfl rfl ⟨(Nat.le_of_ble_eq_true rfl), (Nat.le_of_ble_eq_true rfl)⟩ rfl rfl (Nat.le_of_ble_eq_true rfl) ⟨by show k + 8 ≤ 600006; omega, by show q + 64 ≤ 7302056; omega⟩ (fun _ _ _ z => False.elim z) (fun r1 w1 sz1 _ hP1 => ?_)
  obtain ⟨⟨k1, rfl⟩, hz1, hF1, hD1, hC1, hd1⟩ := hP1
  have hM1 := hM.wf hF1 (Or.inr rfl) hC.zz
  have hT1 := hT.wf hF1 (Or.inr rfl) hz1
  have hO1 := hO.wf hF1 hC.zz
  refine x_st (st1 := [.int k1]) rfl ?_
  refine x_istore [(6, .int k1), (0, .ref b), (1, .ref (g.2 0)), (2, .ref (g.2 0 + 258)), (3, .ref (g.2 0 + 267)), (4, .ref (g.2 0 + 268)), (5, .int (nI i))] 1628 C0 dL_law_1626 rfl (by decide) rfl ?_
  refine x_aload_n 3 1629 C0 dL_law_1628 rfl rfl rfl ?_
  refine x_callV 1632 C0 (e_X8_sailedShare l hl g w1 sz1 n tm v bf sv pa lb sg td sm hM1 hJ) dL_law_1629 rfl mC_X8_sailedShare mM_L_221 mI_X8_sailedShare mV_X8_sailedShare mN_X8 yd_X8_sailedShare rfl rfl ⟨(Nat.le_of_ble_eq_true rfl), (Nat.le_of_ble_eq_true rfl)⟩ hM1.o rfl rfl rfl rfl (Nat.le_of_ble_eq_true rfl) ⟨by show k + 8 + 0 ≤ 600006; omega, by show q + 64 + 0 ≤ 7302056; omega⟩ (fun _ _ _ z => False.elim z) (fun r2 w2 sz2 _ hP2 => ?_)
  obtain ⟨rfl, tm2, lb2, rfl, hJ2, hL2, hQ2⟩ := hP2
  obtain ⟨⟨z2, rfl⟩, hQ2⟩ := hQ2
  have hall2 : AI g (MW g w1 tm2 v bf sv pa lb2 sg td sm) sz1 n (B + 1) ∧ tm2 0 = k1 ∧ (k1 = 0 → ∃ f : Nat → UInt64, w1 (g.2 0 + 268) = some (dE g f) ∧ f 0 = FP.f2d z2 ∧ vf_n64 (f 0)) := by
    rcases hd1 with ⟨hk9, f9, hf9, h06, hz9⟩ | ⟨hk9, h06⟩
    · obtain rfl := Value.int.inj (Option.some.inj hk9)
      rcases hQ2 with ⟨q0, q1, q2⟩ | ⟨q0, -⟩
      · have ez := Value.float.inj (Option.some.inj q2)
        exact ⟨⟨_, _, _, _, _, _, _, _, _, _, _, _, _, _, _, _, _, Nat.le_succ_of_le hc0, hC1.mw, hT1.mw, MR_MW, hJ2, (hA.tm (hL2 2 (by decide)) (hL2 7 (by decide))), hRI.tm (hL2 2 (by decide)) (by omega), fun h => absurd h (Nat.succ_ne_zero _)⟩, q1, fun _ => ⟨f9, hf9, by rw [hz9, ez, hA.1.1.at (q := 7) (by omega), hA.1.1.at (q := 6) (by omega)], by rw [hz9]; exact f2d_ok (fdiv_ok _ h06)⟩⟩
      · exact absurd (by rw [← hA.1.1.at (q := 6) (by omega)]; exact q0) h06
    · obtain rfl := Value.int.inj (Option.some.inj hk9)
      rcases hQ2 with ⟨q0, -⟩ | ⟨q0, q1⟩
      · exact absurd (by rw [hA.1.1.at (q := 6) (by omega)]; exact h06) q0
      · exact ⟨⟨_, _, _, _, _, _, _, _, _, _, _, _, _, _, _, _, _, Nat.le_succ_of_le hc0, hC1.mw, hT1.mw, MR_MW, hJ2, (hA.tm (hL2 2 (by decide)) (hL2 7 (by decide))), hRI.tm (hL2 2 (by decide)) (by omega), fun h => absurd h (Nat.succ_ne_zero _)⟩, q1, fun z => absurd z (by decide)⟩
  refine x_st (st1 := [.float z2]) rfl ?_
  refine x_fstore [(7, .float z2), (6, .int k1), (0, .ref b), (1, .ref (g.2 0)), (2, .ref (g.2 0 + 258)), (3, .ref (g.2 0 + 267)), (4, .ref (g.2 0 + 268)), (5, .int (nI i))] 1634 C0 dL_law_1632 rfl (by decide) rfl ?_
  refine x_aload_n 4 1635 C0 dL_law_1634 rfl rfl rfl ?_
  refine x_callV 1638 C0 (k_X8_thrown l hl g (MW g w1 tm2 v bf sv pa lb2 sg td sm) sz1 n tm2 v bf sv pa lb2 sg td sm MR_MW hJ2) dL_law_1635 rfl mC_X8_thrown mM_L_130 mI_X8_thrown mV_X8_thrown mN_X8 yd_X8_thrown rfl rfl ⟨(Nat.le_of_ble_eq_true rfl), (Nat.le_of_ble_eq_true rfl)⟩ MR_MW.o rfl rfl rfl rfl (Nat.le_of_ble_eq_true rfl) ⟨by show k + 8 + 0 + 0 ≤ 600006; omega, by show q + 64 + 0 + 0 ≤ 7302056; omega⟩ (fun _ _ _ z => False.elim z) (fun r3 w3 sz3 _ hP3 => ?_)
  obtain ⟨rfl, rfl, rfl⟩ := hP3
  refine x_st (st1 := [.int (tm2 0)]) rfl ?_
  refine x_iload 1 1640 C0 dL_law_1638 rfl rfl ?_
  refine x_icmp_eq 1645 1643 C0 dL_law_1640 rfl (by decide) (fun _ => ?_) (fun z => absurd hall2.2.1 z)
  refine x_iload 1 1647 C0 dL_law_1645 rfl rfl ?_
  refine x_if_ne 1683 1650 C0 dL_law_1647 rfl (by decide) (fun _ => ?_) (fun hk0 => ?_)
  · skip
    refine x_goto 2017 C0 dL_law_1683 (by decide) ?_
    exact x_widen (k + 256) (q + 2500) (by omega) (by omega) (x_lv [2, 3, 4, 5, 6, 7] rfl (kk _ _ _ ⟨hall2.1, hO1.mw, hD1.mw⟩))
  · obtain ⟨f9, hf9, hf90, hf91⟩ := hall2.2.2 hk0
    refine x_aload 6 1652 C0 dL_law_1650 rfl rfl ?_
    refine x_iconst (v := 0) 1653 C0 dL_law_1652 rfl (by decide) ?_
    refine x_dald 4 1654 C0 dL_law_1653 rfl ((MW_ne (by omega)).trans hf9) rfl (by unfold vp_in; decide) ?_
    refine x_st (st1 := [.double (f9 0)]) rfl ?_
    refine x_fload 0 1656 C0 dL_law_1654 rfl rfl ?_
    refine x_f2d 1657 C0 dL_law_1656 rfl (by rw [← hf90]; exact hf91) ?_
    refine x_dcmpE 1658 C0 dL_law_1657 rfl hf90 hf91 ?_
    refine x_if_eq 1683 1661 C0 dL_law_1658 rfl (by decide) (fun _ => ?_) (fun z => absurd rfl z)
    refine x_goto 2017 C0 dL_law_1683 (by decide) ?_
    exact x_widen (k + 256) (q + 2500) (by omega) (by omega) (x_lv [2, 3, 4, 5, 6, 7] rfl (kk _ _ _ ⟨hall2.1, hO1.mw, hD1.mw⟩))
set_option maxHeartbeats 4000000 in
set_option maxRecDepth 100000 in
theorem law_c27 (hl : l.stackTraces = false) (C0 : xC p l s m args meth cD g cL_law 9 RL rt tb) (hX : va_X b L xs s s.heap) (hbl : b < s.heap.size) (hbA : ¬ xA g b) (hL : L ≤ 5) (i n k q B : Nat) (hi : i + 5 ≤ L) (hB : B ≤ 512) (hB0 : B = 0) (w : xw_T) (sz : Nat) (hI : LA g w sz n B) (hk : k + 256 ≤ 600006) (hq : q + 2500 ≤ 7302056) (kk : ∀ (w1 : xw_T) (sz1 n1 : Nat), LA g w1 sz1 n1 (B + 1) → xV p l e room_1 s m args below meth cD Q g 9 w1 sz1 (k + 256) (q + 2500) 2017 [(0, .ref b), (1, .ref (g.2 0)), (2, .ref (g.2 0 + 258)), (3, .ref (g.2 0 + 267)), (4, .ref (g.2 0 + 268)), (5, .int (nI i))] []) : xV p l e room_1 s m args below meth cD Q g 9 w sz k q 1686 [(0, .ref b), (1, .ref (g.2 0)), (2, .ref (g.2 0 + 258)), (3, .ref (g.2 0 + 267)), (4, .ref (g.2 0 + 268)), (5, .int (nI i))] [] := by
  obtain ⟨⟨x, la, t, tt, vb, sg, LN, LF, tm, v, bf, sv, pa, lb, td, sm, c0, hc0, hC, hT, hM, hJ, hA, hRI, hRR⟩, hO, hD⟩ := hI
  refine x_aload_n 1 1687 C0 dL_law_1686 rfl rfl rfl ?_
  refine x_aload_n 0 1688 C0 dL_law_1687 rfl rfl rfl ?_
  refine x_iload 5 1690 C0 dL_law_1688 rfl rfl ?_
  refine x_iconst (v := 1) 1691 C0 dL_law_1690 rfl (by decide) ?_
  refine x_iadd 1692 C0 dL_law_1691 rfl ?_
  refine x_st (st1 := [.int (nI (i + 1)), .ref b, .ref (g.2 0)]) (congrArg (fun z => Value.int z :: _) (nI_add i 1)) ?_
  refine x_sld 1693 C0 hX hbl hbA (vp_in_nI (n := i + 1) (by omega) (by omega)) dL_law_1692 rfl ?_
  refine x_if_eq 1700 1696 C0 dL_law_1693 rfl (by decide) (fun hb1 => ?_) (fun hb1 => ?_)
  · refine x_iconst (v := 0) 1701 C0 dL_law_1700 rfl (by decide) ?_
    refine x_aload_n 3 1702 C0 dL_law_1701 rfl rfl rfl ?_
    refine x_callSH 1705 C0 (e_L_reason l hl g w sz n x la t tt vb sg hC hO (0)) dL_law_1702 rfl mC_L_reason mM_L_222 mS_L_reason mN_L yd_L_reason rfl rfl ⟨(Nat.le_of_ble_eq_true rfl), (Nat.le_of_ble_eq_true rfl)⟩ rfl rfl (Nat.le_of_ble_eq_true rfl) ⟨by show k + 8 ≤ 600006; omega, by show q + 64 ≤ 7302056; omega⟩ (fun _ _ _ z => False.elim z) (fun r2 w2 sz2 _ hP2 => ?_)
    obtain ⟨k2, x2, la2, t2, rfl, hz2, hF2, hC2, hd2⟩ := hP2
    have hO2 : wO g w2 := by
      rcases hd2 with ⟨-, v9, f9, -, h9, -⟩ | ⟨h9, -⟩
      · exact ⟨f9, h9⟩
      · exact h9
    have hM2 := hM.wf hF2 (Or.inl rfl) hC.zz
    have hT2 := hT.wf hF2 (Or.inl rfl) hz2
    have hD2 := hD.wf hF2 hC.zz
    refine x_st (st1 := [.int k2]) rfl ?_
    refine x_istore [(6, .int k2), (0, .ref b), (1, .ref (g.2 0)), (2, .ref (g.2 0 + 258)), (3, .ref (g.2 0 + 267)), (4, .ref (g.2 0 + 268)), (5, .int (nI i))] 1707 C0 dL_law_1705 rfl (by decide) rfl ?_
    refine x_aload_n 3 1708 C0 dL_law_1707 rfl rfl rfl ?_
    refine x_aload_n 1 1709 C0 dL_law_1708 rfl rfl rfl ?_
    refine x_iload 6 1711 C0 dL_law_1709 rfl rfl ?_
    refine x_iconst (v := 1) 1712 C0 dL_law_1711 rfl (by decide) ?_
    refine x_iadd 1713 C0 dL_law_1712 rfl ?_
    refine x_st (st1 := [.int (nI (i + 1)), .ref b, .ref (g.2 0 + 258)]) (congrArg (fun z => Value.int z :: _) (nI_add i 1)) ?_
    refine x_sld 1714 C0 hX hbl hbA (vp_in_nI (n := i + 1) (by omega) (by omega)) dL_law_1713 rfl ?_
    refine x_if_eq 1721 1717 C0 dL_law_1714 rfl (by decide) (fun _ => ?_) (fun z => absurd hb1 z)
    refine x_iconst (v := 0) 1722 C0 dL_law_1721 rfl (by decide) ?_
    refine x_callV 1725 C0 (k_X8_reason l hl g w2 sz2 n tm v bf sv pa lb sg td sm hM2 hJ (0)) dL_law_1722 rfl mC_X8_reason mM_L_225 mI_X8_reason mV_X8_reason mN_X8 yd_X8_reason rfl rfl ⟨(Nat.le_of_ble_eq_true rfl), (Nat.le_of_ble_eq_true rfl)⟩ hM2.o rfl rfl rfl rfl (Nat.le_of_ble_eq_true rfl) ⟨by show k + 8 + 0 ≤ 600006; omega, by show q + 64 + 0 ≤ 7302056; omega⟩ (fun _ _ _ z => False.elim z) (fun r3 w3 sz3 _ hP3 => ?_)
    obtain ⟨rfl, tm3, lb3, rfl, hJ3, hL3, hQ3⟩ := hP3
    obtain ⟨⟨z3, rfl⟩, hQ3⟩ := hQ3
    have hall3 : AI g (MW g w2 tm3 v bf sv pa lb3 sg td sm) sz2 n (B + 1) ∧ tm3 0 = k2 ∧ (k2 = 0 → ∃ f, wOf g w2 f ∧ f 0 = Int32.toInt64 z3) := by
      rcases hd2 with ⟨hk9, v9, f9, hL9, ho9, hf9⟩ | ⟨-, E9, hX9, hk9⟩
      · obtain ⟨hr9, hz9⟩ := rd_reason_y (0) (hRR hB0) hQ3 hL9
        obtain ⟨rfl, rfl, rfl⟩ := st_reason hL9
        exact ⟨⟨_, _, _, _, _, _, _, _, _, _, _, _, _, _, _, _, _, Nat.le_succ_of_le hc0, hC2.mw, hT2.mw, MR_MW, hJ3, (hA.tm (hL3 2 (by decide)) (hL3 7 (by decide))), hRI.tm (hL3 2 (by decide)) (by omega), fun h => absurd h (Nat.succ_ne_zero _)⟩, hz9.trans hk9.symm, fun _ => ⟨f9, ho9, hf9.trans (congrArg Int32.toInt64 (Value.int.inj (Option.some.inj hr9)))⟩⟩
      · have hz9 := rd_reason_n (0) (hRR hB0) hQ3 hX9
        have hk8 := kc_reason hX9
        obtain ⟨rfl, rfl, rfl⟩ := sx_reason hX9
        exact ⟨⟨_, _, _, _, _, _, _, _, _, _, _, _, _, _, _, _, _, Nat.le_succ_of_le hc0, hC2.mw, hT2.mw, MR_MW, hJ3, (hA.tm (hL3 2 (by decide)) (hL3 7 (by decide))), hRI.tm (hL3 2 (by decide)) (by omega), fun h => absurd h (Nat.succ_ne_zero _)⟩, hz9.trans hk9.symm, fun z => absurd (hk9.symm.trans z) hk8⟩
    refine x_st (st1 := [.int z3]) rfl ?_
    refine x_istore [(7, .int z3), (6, .int k2), (0, .ref b), (1, .ref (g.2 0)), (2, .ref (g.2 0 + 258)), (3, .ref (g.2 0 + 267)), (4, .ref (g.2 0 + 268)), (5, .int (nI i))] 1727 C0 dL_law_1725 rfl (by decide) rfl ?_
    refine x_aload_n 4 1728 C0 dL_law_1727 rfl rfl rfl ?_
    refine x_callV 1731 C0 (k_X8_thrown l hl g (MW g w2 tm3 v bf sv pa lb3 sg td sm) sz2 n tm3 v bf sv pa lb3 sg td sm MR_MW hJ3) dL_law_1728 rfl mC_X8_thrown mM_L_130 mI_X8_thrown mV_X8_thrown mN_X8 yd_X8_thrown rfl rfl ⟨(Nat.le_of_ble_eq_true rfl), (Nat.le_of_ble_eq_true rfl)⟩ MR_MW.o rfl rfl rfl rfl (Nat.le_of_ble_eq_true rfl) ⟨by show k + 8 + 0 + 0 ≤ 600006; omega, by show q + 64 + 0 + 0 ≤ 7302056; omega⟩ (fun _ _ _ z => False.elim z) (fun r4 w4 sz4 _ hP4 => ?_)
    obtain ⟨rfl, rfl, rfl⟩ := hP4
    refine x_st (st1 := [.int (tm3 0)]) rfl ?_
    refine x_iload 1 1733 C0 dL_law_1731 rfl rfl ?_
    refine x_icmp_eq 1738 1736 C0 dL_law_1733 rfl (by decide) (fun _ => ?_) (fun z => absurd hall3.2.1 z)
    refine x_iload 1 1740 C0 dL_law_1738 rfl rfl ?_
    refine x_if_ne 1755 1743 C0 dL_law_1740 rfl (by decide) (fun _ => ?_) (fun hk0 => ?_)
    · skip
      refine x_goto 2017 C0 dL_law_1755 (by decide) ?_
      exact x_widen (k + 256) (q + 2500) (by omega) (by omega) (x_lv [2, 3, 4, 5, 6, 7] rfl (kk _ _ _ ⟨hall3.1, hO2.mw, hD2.mw⟩))
    · obtain ⟨f9, hf9, hf90⟩ := hall3.2.2 hk0
      refine x_aload_n 5 1744 C0 dL_law_1743 rfl rfl rfl ?_
      refine x_iconst (v := 0) 1745 C0 dL_law_1744 rfl (by decide) ?_
      refine x_lald 3 1746 C0 dL_law_1745 rfl ((MW_ne (by omega)).trans hf9) rfl (by unfold vp_in; decide) ?_
      refine x_st (st1 := [.long (f9 0)]) rfl ?_
      refine x_iload 0 1748 C0 dL_law_1746 rfl rfl ?_
      refine x_i2l (v := (z3).toInt64) 1749 C0 dL_law_1748 rfl rfl ?_
      refine x_lcmpE 1750 C0 dL_law_1749 rfl hf90 ?_
      refine x_if_eq 1755 1753 C0 dL_law_1750 rfl (by decide) (fun _ => ?_) (fun z => absurd rfl z)
      refine x_goto 2017 C0 dL_law_1755 (by decide) ?_
      exact x_widen (k + 256) (q + 2500) (by omega) (by omega) (x_lv [2, 3, 4, 5, 6, 7] rfl (kk _ _ _ ⟨hall3.1, hO2.mw, hD2.mw⟩))
  · refine x_iconst (v := 1) 1697 C0 dL_law_1696 rfl (by decide) ?_
    refine x_goto 1701 C0 dL_law_1697 (by decide) ?_
    refine x_aload_n 3 1702 C0 dL_law_1701 rfl rfl rfl ?_
    refine x_callSH 1705 C0 (e_L_reason l hl g w sz n x la t tt vb sg hC hO (1)) dL_law_1702 rfl mC_L_reason mM_L_222 mS_L_reason mN_L yd_L_reason rfl rfl ⟨(Nat.le_of_ble_eq_true rfl), (Nat.le_of_ble_eq_true rfl)⟩ rfl rfl (Nat.le_of_ble_eq_true rfl) ⟨by show k + 8 ≤ 600006; omega, by show q + 64 ≤ 7302056; omega⟩ (fun _ _ _ z => False.elim z) (fun r5 w5 sz5 _ hP5 => ?_)
    obtain ⟨k5, x5, la5, t5, rfl, hz5, hF5, hC5, hd5⟩ := hP5
    have hO5 : wO g w5 := by
      rcases hd5 with ⟨-, v9, f9, -, h9, -⟩ | ⟨h9, -⟩
      · exact ⟨f9, h9⟩
      · exact h9
    have hM5 := hM.wf hF5 (Or.inl rfl) hC.zz
    have hT5 := hT.wf hF5 (Or.inl rfl) hz5
    have hD5 := hD.wf hF5 hC.zz
    refine x_st (st1 := [.int k5]) rfl ?_
    refine x_istore [(6, .int k5), (0, .ref b), (1, .ref (g.2 0)), (2, .ref (g.2 0 + 258)), (3, .ref (g.2 0 + 267)), (4, .ref (g.2 0 + 268)), (5, .int (nI i))] 1707 C0 dL_law_1705 rfl (by decide) rfl ?_
    refine x_aload_n 3 1708 C0 dL_law_1707 rfl rfl rfl ?_
    refine x_aload_n 1 1709 C0 dL_law_1708 rfl rfl rfl ?_
    refine x_iload 6 1711 C0 dL_law_1709 rfl rfl ?_
    refine x_iconst (v := 1) 1712 C0 dL_law_1711 rfl (by decide) ?_
    refine x_iadd 1713 C0 dL_law_1712 rfl ?_
    refine x_st (st1 := [.int (nI (i + 1)), .ref b, .ref (g.2 0 + 258)]) (congrArg (fun z => Value.int z :: _) (nI_add i 1)) ?_
    refine x_sld 1714 C0 hX hbl hbA (vp_in_nI (n := i + 1) (by omega) (by omega)) dL_law_1713 rfl ?_
    refine x_if_eq 1721 1717 C0 dL_law_1714 rfl (by decide) (fun z => absurd z hb1) (fun _ => ?_)
    refine x_iconst (v := 1) 1718 C0 dL_law_1717 rfl (by decide) ?_
    refine x_goto 1722 C0 dL_law_1718 (by decide) ?_
    refine x_callV 1725 C0 (k_X8_reason l hl g w5 sz5 n tm v bf sv pa lb sg td sm hM5 hJ (1)) dL_law_1722 rfl mC_X8_reason mM_L_225 mI_X8_reason mV_X8_reason mN_X8 yd_X8_reason rfl rfl ⟨(Nat.le_of_ble_eq_true rfl), (Nat.le_of_ble_eq_true rfl)⟩ hM5.o rfl rfl rfl rfl (Nat.le_of_ble_eq_true rfl) ⟨by show k + 8 + 0 ≤ 600006; omega, by show q + 64 + 0 ≤ 7302056; omega⟩ (fun _ _ _ z => False.elim z) (fun r6 w6 sz6 _ hP6 => ?_)
    obtain ⟨rfl, tm6, lb6, rfl, hJ6, hL6, hQ6⟩ := hP6
    obtain ⟨⟨z6, rfl⟩, hQ6⟩ := hQ6
    have hall6 : AI g (MW g w5 tm6 v bf sv pa lb6 sg td sm) sz5 n (B + 1) ∧ tm6 0 = k5 ∧ (k5 = 0 → ∃ f, wOf g w5 f ∧ f 0 = Int32.toInt64 z6) := by
      rcases hd5 with ⟨hk9, v9, f9, hL9, ho9, hf9⟩ | ⟨-, E9, hX9, hk9⟩
      · obtain ⟨hr9, hz9⟩ := rd_reason_y (1) (hRR hB0) hQ6 hL9
        obtain ⟨rfl, rfl, rfl⟩ := st_reason hL9
        exact ⟨⟨_, _, _, _, _, _, _, _, _, _, _, _, _, _, _, _, _, Nat.le_succ_of_le hc0, hC5.mw, hT5.mw, MR_MW, hJ6, (hA.tm (hL6 2 (by decide)) (hL6 7 (by decide))), hRI.tm (hL6 2 (by decide)) (by omega), fun h => absurd h (Nat.succ_ne_zero _)⟩, hz9.trans hk9.symm, fun _ => ⟨f9, ho9, hf9.trans (congrArg Int32.toInt64 (Value.int.inj (Option.some.inj hr9)))⟩⟩
      · have hz9 := rd_reason_n (1) (hRR hB0) hQ6 hX9
        have hk8 := kc_reason hX9
        obtain ⟨rfl, rfl, rfl⟩ := sx_reason hX9
        exact ⟨⟨_, _, _, _, _, _, _, _, _, _, _, _, _, _, _, _, _, Nat.le_succ_of_le hc0, hC5.mw, hT5.mw, MR_MW, hJ6, (hA.tm (hL6 2 (by decide)) (hL6 7 (by decide))), hRI.tm (hL6 2 (by decide)) (by omega), fun h => absurd h (Nat.succ_ne_zero _)⟩, hz9.trans hk9.symm, fun z => absurd (hk9.symm.trans z) hk8⟩
    refine x_st (st1 := [.int z6]) rfl ?_
    refine x_istore [(7, .int z6), (6, .int k5), (0, .ref b), (1, .ref (g.2 0)), (2, .ref (g.2 0 + 258)), (3, .ref (g.2 0 + 267)), (4, .ref (g.2 0 + 268)), (5, .int (nI i))] 1727 C0 dL_law_1725 rfl (by decide) rfl ?_
    refine x_aload_n 4 1728 C0 dL_law_1727 rfl rfl rfl ?_
    refine x_callV 1731 C0 (k_X8_thrown l hl g (MW g w5 tm6 v bf sv pa lb6 sg td sm) sz5 n tm6 v bf sv pa lb6 sg td sm MR_MW hJ6) dL_law_1728 rfl mC_X8_thrown mM_L_130 mI_X8_thrown mV_X8_thrown mN_X8 yd_X8_thrown rfl rfl ⟨(Nat.le_of_ble_eq_true rfl), (Nat.le_of_ble_eq_true rfl)⟩ MR_MW.o rfl rfl rfl rfl (Nat.le_of_ble_eq_true rfl) ⟨by show k + 8 + 0 + 0 ≤ 600006; omega, by show q + 64 + 0 + 0 ≤ 7302056; omega⟩ (fun _ _ _ z => False.elim z) (fun r7 w7 sz7 _ hP7 => ?_)
    obtain ⟨rfl, rfl, rfl⟩ := hP7
    refine x_st (st1 := [.int (tm6 0)]) rfl ?_
    refine x_iload 1 1733 C0 dL_law_1731 rfl rfl ?_
    refine x_icmp_eq 1738 1736 C0 dL_law_1733 rfl (by decide) (fun _ => ?_) (fun z => absurd hall6.2.1 z)
    refine x_iload 1 1740 C0 dL_law_1738 rfl rfl ?_
    refine x_if_ne 1755 1743 C0 dL_law_1740 rfl (by decide) (fun _ => ?_) (fun hk0 => ?_)
    · skip
      refine x_goto 2017 C0 dL_law_1755 (by decide) ?_
      exact x_widen (k + 256) (q + 2500) (by omega) (by omega) (x_lv [2, 3, 4, 5, 6, 7] rfl (kk _ _ _ ⟨hall6.1, hO5.mw, hD5.mw⟩))
    · obtain ⟨f9, hf9, hf90⟩ := hall6.2.2 hk0
      refine x_aload_n 5 1744 C0 dL_law_1743 rfl rfl rfl ?_
      refine x_iconst (v := 0) 1745 C0 dL_law_1744 rfl (by decide) ?_
      refine x_lald 3 1746 C0 dL_law_1745 rfl ((MW_ne (by omega)).trans hf9) rfl (by unfold vp_in; decide) ?_
      refine x_st (st1 := [.long (f9 0)]) rfl ?_
      refine x_iload 0 1748 C0 dL_law_1746 rfl rfl ?_
      refine x_i2l (v := (z6).toInt64) 1749 C0 dL_law_1748 rfl rfl ?_
      refine x_lcmpE 1750 C0 dL_law_1749 rfl hf90 ?_
      refine x_if_eq 1755 1753 C0 dL_law_1750 rfl (by decide) (fun _ => ?_) (fun z => absurd rfl z)
      refine x_goto 2017 C0 dL_law_1755 (by decide) ?_
      exact x_widen (k + 256) (q + 2500) (by omega) (by omega) (x_lv [2, 3, 4, 5, 6, 7] rfl (kk _ _ _ ⟨hall6.1, hO5.mw, hD5.mw⟩))
set_option maxHeartbeats 4000000 in
set_option maxRecDepth 100000 in
theorem law_c28 (hl : l.stackTraces = false) (C0 : xC p l s m args meth cD g cL_law 9 RL rt tb) (hX : va_X b L xs s s.heap) (hbl : b < s.heap.size) (hbA : ¬ xA g b) (hL : L ≤ 5) (i n k q B : Nat) (hi : i + 5 ≤ L) (hB : B ≤ 512) (hB0 : B = 0) (w : xw_T) (sz : Nat) (hI : LA g w sz n B) (hk : k + 256 ≤ 600006) (hq : q + 2500 ≤ 7302056) (kk : ∀ (w1 : xw_T) (sz1 n1 : Nat), LA g w1 sz1 n1 (B + 1) → xV p l e room_1 s m args below meth cD Q g 9 w1 sz1 (k + 256) (q + 2500) 2017 [(0, .ref b), (1, .ref (g.2 0)), (2, .ref (g.2 0 + 258)), (3, .ref (g.2 0 + 267)), (4, .ref (g.2 0 + 268)), (5, .int (nI i))] []) : xV p l e room_1 s m args below meth cD Q g 9 w sz k q 1758 [(0, .ref b), (1, .ref (g.2 0)), (2, .ref (g.2 0 + 258)), (3, .ref (g.2 0 + 267)), (4, .ref (g.2 0 + 268)), (5, .int (nI i))] [] := by
  obtain ⟨⟨x, la, t, tt, vb, sg, LN, LF, tm, v, bf, sv, pa, lb, td, sm, c0, hc0, hC, hT, hM, hJ, hA, hRI, hRR⟩, hO, hD⟩ := hI
  refine x_aload_n 1 1759 C0 dL_law_1758 rfl rfl rfl ?_
  refine x_aload_n 0 1760 C0 dL_law_1759 rfl rfl rfl ?_
  refine x_iload 5 1762 C0 dL_law_1760 rfl rfl ?_
  refine x_iconst (v := 1) 1763 C0 dL_law_1762 rfl (by decide) ?_
  refine x_iadd 1764 C0 dL_law_1763 rfl ?_
  refine x_st (st1 := [.int (nI (i + 1)), .ref b, .ref (g.2 0)]) (congrArg (fun z => Value.int z :: _) (nI_add i 1)) ?_
  refine x_sld 1765 C0 hX hbl hbA (vp_in_nI (n := i + 1) (by omega) (by omega)) dL_law_1764 rfl ?_
  refine x_aload_n 3 1766 C0 dL_law_1765 rfl rfl rfl ?_
  refine x_callSH 1769 C0 (e_L_account l hl g w sz n x la t tt vb sg hC hO ((xs (nI (i + 1)).toNatClampNeg))) dL_law_1766 rfl mC_L_account mM_L_226 mS_L_account mN_L yd_L_account rfl rfl ⟨(Nat.le_of_ble_eq_true rfl), (Nat.le_of_ble_eq_true rfl)⟩ rfl rfl (Nat.le_of_ble_eq_true rfl) ⟨by show k + 8 ≤ 600006; omega, by show q + 64 ≤ 7302056; omega⟩ (fun _ _ _ z => False.elim z) (fun r1 w1 sz1 _ hP1 => ?_)
  obtain ⟨k1, x1, la1, t1, rfl, hz1, hF1, hC1, hd1⟩ := hP1
  have hO1 : wO g w1 := by
    rcases hd1 with ⟨-, v9, f9, -, h9, -⟩ | ⟨h9, -⟩
    · exact ⟨f9, h9⟩
    · exact h9
  have hM1 := hM.wf hF1 (Or.inl rfl) hC.zz
  have hT1 := hT.wf hF1 (Or.inl rfl) hz1
  have hD1 := hD.wf hF1 hC.zz
  refine x_st (st1 := [.int k1]) rfl ?_
  refine x_istore [(6, .int k1), (0, .ref b), (1, .ref (g.2 0)), (2, .ref (g.2 0 + 258)), (3, .ref (g.2 0 + 267)), (4, .ref (g.2 0 + 268)), (5, .int (nI i))] 1771 C0 dL_law_1769 rfl (by decide) rfl ?_
  refine x_aload_n 3 1772 C0 dL_law_1771 rfl rfl rfl ?_
  refine x_aload_n 1 1773 C0 dL_law_1772 rfl rfl rfl ?_
  refine x_iload 6 1775 C0 dL_law_1773 rfl rfl ?_
  refine x_iconst (v := 1) 1776 C0 dL_law_1775 rfl (by decide) ?_
  refine x_iadd 1777 C0 dL_law_1776 rfl ?_
  refine x_st (st1 := [.int (nI (i + 1)), .ref b, .ref (g.2 0 + 258)]) (congrArg (fun z => Value.int z :: _) (nI_add i 1)) ?_
  refine x_sld 1778 C0 hX hbl hbA (vp_in_nI (n := i + 1) (by omega) (by omega)) dL_law_1777 rfl ?_
  refine x_callV 1781 C0 (k_X8_account l hl g w1 sz1 n tm v bf sv pa lb sg td sm hM1 hJ ((xs (nI (i + 1)).toNatClampNeg))) dL_law_1778 rfl mC_X8_account mM_L_228 mI_X8_account mV_X8_account mN_X8 yd_X8_account rfl rfl ⟨(Nat.le_of_ble_eq_true rfl), (Nat.le_of_ble_eq_true rfl)⟩ hM1.o rfl rfl rfl rfl (Nat.le_of_ble_eq_true rfl) ⟨by show k + 8 + 0 ≤ 600006; omega, by show q + 64 + 0 ≤ 7302056; omega⟩ (fun _ _ _ z => False.elim z) (fun r2 w2 sz2 _ hP2 => ?_)
  obtain ⟨rfl, tm2, lb2, rfl, hJ2, hL2, hQ2⟩ := hP2
  obtain ⟨⟨z2, rfl⟩, hQ2⟩ := hQ2
  have hall2 : AI g (MW g w1 tm2 v bf sv pa lb2 sg td sm) sz1 n (B + 1) ∧ tm2 0 = k1 ∧ (k1 = 0 → ∃ f, wOf g w1 f ∧ f 0 = Int32.toInt64 z2) := by
    rcases hd1 with ⟨hk9, v9, f9, hL9, ho9, hf9⟩ | ⟨-, E9, hX9, hk9⟩
    · obtain ⟨hr9, hz9⟩ := rd_account_y ((xs (nI (i + 1)).toNatClampNeg)) hA.1 hJ.2.2.2.2.2.1 hA.t2 hQ2 hL9
      obtain ⟨rfl, rfl, rfl⟩ := st_account hL9
      exact ⟨⟨_, _, _, _, _, _, _, _, _, _, _, _, _, _, _, _, _, Nat.le_succ_of_le hc0, hC1.mw, hT1.mw, MR_MW, hJ2, (hA.tm (hL2 2 (by decide)) (hL2 7 (by decide))), hRI.tm (hL2 2 (by decide)) (by omega), fun h => absurd h (Nat.succ_ne_zero _)⟩, hz9.trans hk9.symm, fun _ => ⟨f9, ho9, hf9.trans (congrArg Int32.toInt64 (Value.int.inj (Option.some.inj hr9)))⟩⟩
    · have hz9 := rd_account_n ((xs (nI (i + 1)).toNatClampNeg)) hA.1 hJ.2.2.2.2.2.1 hA.t2 hQ2 hX9
      have hk8 := kc_account hX9
      obtain ⟨rfl, rfl, rfl⟩ := sx_account hX9
      exact ⟨⟨_, _, _, _, _, _, _, _, _, _, _, _, _, _, _, _, _, Nat.le_succ_of_le hc0, hC1.mw, hT1.mw, MR_MW, hJ2, (hA.tm (hL2 2 (by decide)) (hL2 7 (by decide))), hRI.tm (hL2 2 (by decide)) (by omega), fun h => absurd h (Nat.succ_ne_zero _)⟩, hz9.trans hk9.symm, fun z => absurd (hk9.symm.trans z) hk8⟩
  refine x_st (st1 := [.int z2]) rfl ?_
  refine x_istore [(7, .int z2), (6, .int k1), (0, .ref b), (1, .ref (g.2 0)), (2, .ref (g.2 0 + 258)), (3, .ref (g.2 0 + 267)), (4, .ref (g.2 0 + 268)), (5, .int (nI i))] 1783 C0 dL_law_1781 rfl (by decide) rfl ?_
  refine x_aload_n 4 1784 C0 dL_law_1783 rfl rfl rfl ?_
  refine x_callV 1787 C0 (k_X8_thrown l hl g (MW g w1 tm2 v bf sv pa lb2 sg td sm) sz1 n tm2 v bf sv pa lb2 sg td sm MR_MW hJ2) dL_law_1784 rfl mC_X8_thrown mM_L_130 mI_X8_thrown mV_X8_thrown mN_X8 yd_X8_thrown rfl rfl ⟨(Nat.le_of_ble_eq_true rfl), (Nat.le_of_ble_eq_true rfl)⟩ MR_MW.o rfl rfl rfl rfl (Nat.le_of_ble_eq_true rfl) ⟨by show k + 8 + 0 + 0 ≤ 600006; omega, by show q + 64 + 0 + 0 ≤ 7302056; omega⟩ (fun _ _ _ z => False.elim z) (fun r3 w3 sz3 _ hP3 => ?_)
  obtain ⟨rfl, rfl, rfl⟩ := hP3
  refine x_st (st1 := [.int (tm2 0)]) rfl ?_
  refine x_iload 1 1789 C0 dL_law_1787 rfl rfl ?_
  refine x_icmp_eq 1794 1792 C0 dL_law_1789 rfl (by decide) (fun _ => ?_) (fun z => absurd hall2.2.1 z)
  refine x_iload 1 1796 C0 dL_law_1794 rfl rfl ?_
  refine x_if_ne 1811 1799 C0 dL_law_1796 rfl (by decide) (fun _ => ?_) (fun hk0 => ?_)
  · skip
    refine x_goto 2017 C0 dL_law_1811 (by decide) ?_
    exact x_widen (k + 256) (q + 2500) (by omega) (by omega) (x_lv [2, 3, 4, 5, 6, 7] rfl (kk _ _ _ ⟨hall2.1, hO1.mw, hD1.mw⟩))
  · obtain ⟨f9, hf9, hf90⟩ := hall2.2.2 hk0
    refine x_aload_n 5 1800 C0 dL_law_1799 rfl rfl rfl ?_
    refine x_iconst (v := 0) 1801 C0 dL_law_1800 rfl (by decide) ?_
    refine x_lald 3 1802 C0 dL_law_1801 rfl ((MW_ne (by omega)).trans hf9) rfl (by unfold vp_in; decide) ?_
    refine x_st (st1 := [.long (f9 0)]) rfl ?_
    refine x_iload 0 1804 C0 dL_law_1802 rfl rfl ?_
    refine x_i2l (v := (z2).toInt64) 1805 C0 dL_law_1804 rfl rfl ?_
    refine x_lcmpE 1806 C0 dL_law_1805 rfl hf90 ?_
    refine x_if_eq 1811 1809 C0 dL_law_1806 rfl (by decide) (fun _ => ?_) (fun z => absurd rfl z)
    refine x_goto 2017 C0 dL_law_1811 (by decide) ?_
    exact x_widen (k + 256) (q + 2500) (by omega) (by omega) (x_lv [2, 3, 4, 5, 6, 7] rfl (kk _ _ _ ⟨hall2.1, hO1.mw, hD1.mw⟩))
set_option maxHeartbeats 4000000 in
set_option maxRecDepth 100000 in
theorem law_c29 (hl : l.stackTraces = false) (C0 : xC p l s m args meth cD g cL_law 9 RL rt tb) (hX : va_X b L xs s s.heap) (hbl : b < s.heap.size) (hbA : ¬ xA g b) (hL : L ≤ 5) (i n k q B : Nat) (hi : i + 5 ≤ L) (hB : B ≤ 512) (hB0 : B = 0) (w : xw_T) (sz : Nat) (hI : LA g w sz n B) (hk : k + 256 ≤ 600006) (hq : q + 2500 ≤ 7302056) (kk : ∀ (w1 : xw_T) (sz1 n1 : Nat), LA g w1 sz1 n1 (B + 1) → xV p l e room_1 s m args below meth cD Q g 9 w1 sz1 (k + 256) (q + 2500) 2017 [(0, .ref b), (1, .ref (g.2 0)), (2, .ref (g.2 0 + 258)), (3, .ref (g.2 0 + 267)), (4, .ref (g.2 0 + 268)), (5, .int (nI i))] []) : xV p l e room_1 s m args below meth cD Q g 9 w sz k q 1814 [(0, .ref b), (1, .ref (g.2 0)), (2, .ref (g.2 0 + 258)), (3, .ref (g.2 0 + 267)), (4, .ref (g.2 0 + 268)), (5, .int (nI i))] [] := by
  obtain ⟨⟨x, la, t, tt, vb, sg, LN, LF, tm, v, bf, sv, pa, lb, td, sm, c0, hc0, hC, hT, hM, hJ, hA, hRI, hRR⟩, hO, hD⟩ := hI
  refine x_aload_n 1 1815 C0 dL_law_1814 rfl rfl rfl ?_
  refine x_aload_n 0 1816 C0 dL_law_1815 rfl rfl rfl ?_
  refine x_iload 5 1818 C0 dL_law_1816 rfl rfl ?_
  refine x_iconst (v := 1) 1819 C0 dL_law_1818 rfl (by decide) ?_
  refine x_iadd 1820 C0 dL_law_1819 rfl ?_
  refine x_st (st1 := [.int (nI (i + 1)), .ref b, .ref (g.2 0)]) (congrArg (fun z => Value.int z :: _) (nI_add i 1)) ?_
  refine x_sld 1821 C0 hX hbl hbA (vp_in_nI (n := i + 1) (by omega) (by omega)) dL_law_1820 rfl ?_
  obtain ⟨c1, hc1⟩ : ∃ z : Int32, (((xs (nI (i + 1)).toNatClampNeg)).toUInt32 % 65536).toInt32 = z := ⟨_, rfl⟩
  have hcc1 : vp_nar .char c1 = c1 := by rw [← hc1]; exact nar_c2 _
  refine x_i2c (v := c1) 1822 C0 dL_law_1821 rfl hc1 ?_
  refine x_aload_n 3 1823 C0 dL_law_1822 rfl rfl rfl ?_
  refine x_callSH 1826 C0 (e_L_feed l hl g w sz n x la t tt vb sg hC hO (c1)) dL_law_1823 rfl mC_L_feed mM_L_229 mS_L_feed mN_L yd_L_feed rfl rfl ⟨(Nat.le_of_ble_eq_true rfl), (Nat.le_of_ble_eq_true rfl)⟩ rfl rfl (Nat.le_of_ble_eq_true rfl) ⟨by show k + 8 ≤ 600006; omega, by show q + 64 ≤ 7302056; omega⟩ (fun _ _ _ z => False.elim z) (fun r2 w2 sz2 _ hP2 => ?_)
  obtain ⟨hF2, hz2, hP2⟩ := hP2
  have hM2 := hM.wf hF2 (Or.inl rfl) hC.zz
  have hT2 := hT.wf hF2 (Or.inl rfl) hz2
  have hD2 := hD.wf hF2 hC.zz
  have hO2 : wO g w2 := hP2.elim (fun z => z.2.2.2.elim (fun f h => ⟨f, h.1⟩)) (fun z => z.2.2.2)
  obtain ⟨k2, hr2, hkk2⟩ : ∃ k : Int32, r2 = some (.int k) ∧ ((n < 60 ∧ k = 0) ∨ (n = 60 ∧ k = 1)) := hP2.elim (fun z => ⟨0, z.2.1, Or.inl ⟨z.1, rfl⟩⟩) (fun z => ⟨1, z.2.1, Or.inr ⟨z.1, rfl⟩⟩)
  subst hr2
  refine x_st (st1 := [.int k2]) rfl ?_
  refine x_istore [(6, .int k2), (0, .ref b), (1, .ref (g.2 0)), (2, .ref (g.2 0 + 258)), (3, .ref (g.2 0 + 267)), (4, .ref (g.2 0 + 268)), (5, .int (nI i))] 1828 C0 dL_law_1826 rfl (by decide) rfl ?_
  refine x_aload_n 3 1829 C0 dL_law_1828 rfl rfl rfl ?_
  refine x_aload_n 1 1830 C0 dL_law_1829 rfl rfl rfl ?_
  refine x_iload 6 1832 C0 dL_law_1830 rfl rfl ?_
  refine x_iconst (v := 1) 1833 C0 dL_law_1832 rfl (by decide) ?_
  refine x_iadd 1834 C0 dL_law_1833 rfl ?_
  refine x_st (st1 := [.int (nI (i + 1)), .ref b, .ref (g.2 0 + 258)]) (congrArg (fun z => Value.int z :: _) (nI_add i 1)) ?_
  refine x_sld 1835 C0 hX hbl hbA (vp_in_nI (n := i + 1) (by omega) (by omega)) dL_law_1834 rfl ?_
  refine x_i2c (v := c1) 1836 C0 dL_law_1835 rfl hc1 ?_
  refine x_callV 1839 C0 (k_X8_feed l hl g w2 sz2 n tm v bf sv pa lb sg td sm hM2 hJ (c1)) dL_law_1836 rfl mC_X8_feed mM_L_232 mI_X8_feed mV_X8_feed mN_X8 yd_X8_feed rfl rfl ⟨(Nat.le_of_ble_eq_true rfl), (Nat.le_of_ble_eq_true rfl)⟩ hM2.o rfl rfl rfl rfl (Nat.le_of_ble_eq_true rfl) ⟨by show k + 8 + 0 ≤ 600006; omega, by show q + 64 + 0 ≤ 7302056; omega⟩ (fun _ _ _ z => False.elim z) (fun r3 w3 sz3 _ hP3 => ?_)
  obtain ⟨rfl, hP3⟩ := hP3
  obtain ⟨z3, hrz3⟩ : ∃ z : Int32, r3 = some (.int z) := hP3.elim (fun z => ⟨_, z.2.1⟩) (fun z => ⟨_, z.2.1⟩)
  subst hrz3
  obtain ⟨tm3, sg3, n3, eW3, hJ3, hall3⟩ : ∃ (t9 s9 : Nat → Int32) (n9 : Nat), w3 = (MW g w2 t9 v bf sv pa lb s9 td sm) ∧ MJ n9 t9 v bf sv pa sm ∧ AI g (MW g w2 t9 v bf sv pa lb s9 td sm) sz2 n9 (B + 1) ∧ t9 0 = k2 ∧ (k2 = 0 → ∃ f, wOf g w2 f ∧ f 0 = Int32.toInt64 z3) := by
    rcases hP3 with ⟨hn9, hr9, t9, rfl, hJ9, h09, hL9⟩ | ⟨hn9, hr9, t9, rfl, hJ9, h09, hL9⟩
    · obtain ⟨-, hk9, hC9, f9, hw9, hf9⟩ := hP2.resolve_right (fun z => by omega)
      rw [hcc1] at hC9
      exact ⟨t9, _, n + 1, rfl, hJ9, ⟨_, _, _, _, _, _, _, _, _, _, _, _, _, _, _, _, _, Nat.le_succ_of_le hc0, hC9.mw, hT2.mw, MR_MW, hJ9, hA.tm (hL9 2 (by decide)) (hL9 7 (by decide)), hRI.tm (hL9 2 (by decide)) (by omega), fun h => absurd h (Nat.succ_ne_zero _)⟩, h09.trans (Value.int.inj (Option.some.inj hk9)).symm, fun _ => ⟨f9, hw9, hf9.trans (congrArg Int32.toInt64 (Value.int.inj (Option.some.inj hr9)).symm)⟩⟩
    · obtain ⟨-, hk9, hC9, -⟩ := hP2.resolve_left (fun z => by omega)
      exact ⟨t9, _, n, rfl, hJ9, ⟨_, _, _, _, _, _, _, _, _, _, _, _, _, _, _, _, _, Nat.le_succ_of_le hc0, hC9.mw, hT2.mw, MR_MW, hJ9, hA.tm (hL9 2 (by decide)) (hL9 7 (by decide)), hRI.tm (hL9 2 (by decide)) (by omega), fun h => absurd h (Nat.succ_ne_zero _)⟩, h09.trans (Value.int.inj (Option.some.inj hk9)).symm, fun z => absurd ((Value.int.inj (Option.some.inj hk9)).symm.trans z) (by decide)⟩
  subst eW3
  refine x_st (st1 := [.int z3]) rfl ?_
  refine x_istore [(7, .int z3), (6, .int k2), (0, .ref b), (1, .ref (g.2 0)), (2, .ref (g.2 0 + 258)), (3, .ref (g.2 0 + 267)), (4, .ref (g.2 0 + 268)), (5, .int (nI i))] 1841 C0 dL_law_1839 rfl (by decide) rfl ?_
  refine x_aload_n 4 1842 C0 dL_law_1841 rfl rfl rfl ?_
  refine x_callV 1845 C0 (k_X8_thrown l hl g (MW g w2 tm3 v bf sv pa lb sg3 td sm) sz2 n3 tm3 v bf sv pa lb sg3 td sm MR_MW hJ3) dL_law_1842 rfl mC_X8_thrown mM_L_130 mI_X8_thrown mV_X8_thrown mN_X8 yd_X8_thrown rfl rfl ⟨(Nat.le_of_ble_eq_true rfl), (Nat.le_of_ble_eq_true rfl)⟩ MR_MW.o rfl rfl rfl rfl (Nat.le_of_ble_eq_true rfl) ⟨by show k + 8 + 0 + 0 ≤ 600006; omega, by show q + 64 + 0 + 0 ≤ 7302056; omega⟩ (fun _ _ _ z => False.elim z) (fun r4 w4 sz4 _ hP4 => ?_)
  obtain ⟨rfl, rfl, rfl⟩ := hP4
  refine x_st (st1 := [.int (tm3 0)]) rfl ?_
  refine x_iload 1 1847 C0 dL_law_1845 rfl rfl ?_
  refine x_icmp_eq 1852 1850 C0 dL_law_1847 rfl (by decide) (fun _ => ?_) (fun z => absurd hall3.2.1 z)
  refine x_iload 1 1854 C0 dL_law_1852 rfl rfl ?_
  refine x_if_ne 1869 1857 C0 dL_law_1854 rfl (by decide) (fun _ => ?_) (fun hk0 => ?_)
  · skip
    refine x_goto 2017 C0 dL_law_1869 (by decide) ?_
    exact x_widen (k + 256) (q + 2500) (by omega) (by omega) (x_lv [2, 3, 4, 5, 6, 7] rfl (kk _ _ _ ⟨hall3.1, hO2.mw, hD2.mw⟩))
  · obtain ⟨f9, hf9, hf90⟩ := hall3.2.2 hk0
    refine x_aload_n 5 1858 C0 dL_law_1857 rfl rfl rfl ?_
    refine x_iconst (v := 0) 1859 C0 dL_law_1858 rfl (by decide) ?_
    refine x_lald 3 1860 C0 dL_law_1859 rfl ((MW_ne (by omega)).trans hf9) rfl (by unfold vp_in; decide) ?_
    refine x_st (st1 := [.long (f9 0)]) rfl ?_
    refine x_iload 0 1862 C0 dL_law_1860 rfl rfl ?_
    refine x_i2l (v := (z3).toInt64) 1863 C0 dL_law_1862 rfl rfl ?_
    refine x_lcmpE 1864 C0 dL_law_1863 rfl hf90 ?_
    refine x_if_eq 1869 1867 C0 dL_law_1864 rfl (by decide) (fun _ => ?_) (fun z => absurd rfl z)
    refine x_goto 2017 C0 dL_law_1869 (by decide) ?_
    exact x_widen (k + 256) (q + 2500) (by omega) (by omega) (x_lv [2, 3, 4, 5, 6, 7] rfl (kk _ _ _ ⟨hall3.1, hO2.mw, hD2.mw⟩))
set_option maxHeartbeats 4000000 in
set_option maxRecDepth 100000 in
theorem law_c30 (hl : l.stackTraces = false) (C0 : xC p l s m args meth cD g cL_law 9 RL rt tb) (hX : va_X b L xs s s.heap) (hbl : b < s.heap.size) (hbA : ¬ xA g b) (hL : L ≤ 5) (i n k q B : Nat) (hi : i + 5 ≤ L) (hB : B ≤ 512) (hB0 : B = 0) (w : xw_T) (sz : Nat) (hI : LA g w sz n B) (hk : k + 256 ≤ 600006) (hq : q + 2500 ≤ 7302056) (kk : ∀ (w1 : xw_T) (sz1 n1 : Nat), LA g w1 sz1 n1 (B + 1) → xV p l e room_1 s m args below meth cD Q g 9 w1 sz1 (k + 256) (q + 2500) 2017 [(0, .ref b), (1, .ref (g.2 0)), (2, .ref (g.2 0 + 258)), (3, .ref (g.2 0 + 267)), (4, .ref (g.2 0 + 268)), (5, .int (nI i))] []) : xV p l e room_1 s m args below meth cD Q g 9 w sz k q 1872 [(0, .ref b), (1, .ref (g.2 0)), (2, .ref (g.2 0 + 258)), (3, .ref (g.2 0 + 267)), (4, .ref (g.2 0 + 268)), (5, .int (nI i))] [] := by
  obtain ⟨⟨x, la, t, tt, vb, sg, LN, LF, tm, v, bf, sv, pa, lb, td, sm, c0, hc0, hC, hT, hM, hJ, hA, hRI, hRR⟩, hO, hD⟩ := hI
  refine x_aload_n 1 1873 C0 dL_law_1872 rfl rfl rfl ?_
  refine x_aload_n 3 1874 C0 dL_law_1873 rfl rfl rfl ?_
  refine x_callSH 1877 C0 (e_L_perform l hl g w sz n x la t tt vb sg hC v (LN 0) (LF 0) (hT 0 (by omega)) hA.1.1 hA.1.2 c0 (by omega) hA.h1 hO) dL_law_1874 rfl mC_L_perform mM_L_233 mS_L_perform mN_L yd_L_perform rfl rfl ⟨(Nat.le_of_ble_eq_true rfl), (Nat.le_of_ble_eq_true rfl)⟩ rfl rfl (Nat.le_of_ble_eq_true rfl) ⟨by show k + 256 ≤ 600006; omega, by show q + 2500 ≤ 7302056; omega⟩ (fun _ _ _ z => False.elim z) (fun r1 w1 sz1 _ hP1 => ?_)
  obtain ⟨k1, x1, la1, t1, tt1, vb1, rfl, hz1, hF1, hC1, hd1⟩ := hP1
  have hO1 : wO g w1 := by
    rcases hd1 with ⟨-, v9, f9, -, h9, -⟩ | ⟨h9, -⟩
    · exact ⟨f9, h9⟩
    · exact h9
  have hM1 := hM.wf hF1 (Or.inl rfl) hC.zz
  have hT1 := hT.wf hF1 (Or.inl rfl) hz1
  have hD1 := hD.wf hF1 hC.zz
  refine x_st (st1 := [.int k1]) rfl ?_
  refine x_istore [(6, .int k1), (0, .ref b), (1, .ref (g.2 0)), (2, .ref (g.2 0 + 258)), (3, .ref (g.2 0 + 267)), (4, .ref (g.2 0 + 268)), (5, .int (nI i))] 1879 C0 dL_law_1877 rfl (by decide) rfl ?_
  refine x_aload_n 3 1880 C0 dL_law_1879 rfl rfl rfl ?_
  refine x_callV 1883 C0 (e_X8_perform l hl g w1 sz1 n tm v bf sv pa lb sg td sm hM1 hJ) dL_law_1880 rfl mC_X8_perform mM_L_235 mI_X8_perform mV_X8_perform mN_X8 yd_X8_perform rfl rfl ⟨(Nat.le_of_ble_eq_true rfl), (Nat.le_of_ble_eq_true rfl)⟩ hM1.o rfl rfl rfl rfl (Nat.le_of_ble_eq_true rfl) ⟨by show k + 256 + 0 ≤ 600006; omega, by show q + 2500 + 0 ≤ 7302056; omega⟩ (fun _ _ _ z => False.elim z) (fun r2 w2 sz2 _ hP2 => ?_)
  obtain ⟨rfl, tm2, v2, bf2, pa2, lb2, td2, rfl, hJ2, h72, hQ2⟩ := hP2
  obtain ⟨z2, rfl⟩ : ∃ z : Int32, r2 = some (.int z) := hQ2.elim (fun ⟨_, _, _, z, _⟩ => ⟨_, z⟩) (fun ⟨_, _, _, _, _, _, _, _, _, z, _⟩ => endP_r z)
  have hall2 : AI g (MW g w1 tm2 v2 bf2 sv pa2 lb2 sg td2 sm) sz1 0 (B + 1) ∧ tm2 0 = k1 ∧ (k1 = 0 → ∃ f, wOf g w1 f ∧ f 0 = Int32.toInt64 z2) := by
    rcases hd1 with ⟨hk9, v9, f9, hL9, ho9, hf9⟩ | ⟨-, hk9, ht9, hX9⟩
    · obtain ⟨hr9, hz9, c9, LN9, LF9, hc9, hT9, hA9⟩ := al_perform_y (w := w) (sz := sz) hJ.2.2.2.2.2.2.1 hA hT1 (by omega) h72 hL9 hQ2
      exact ⟨⟨_, _, _, _, _, _, _, _, _, _, _, _, _, _, _, _, _, Nat.le_trans hc9 (by omega), hC1.mw, hT9.mw, MR_MW, hJ2, hA9, ri_perform hRI hQ2, fun h => absurd h (Nat.succ_ne_zero _)⟩, hz9.trans hk9.symm, fun _ => ⟨f9, ho9, hf9.trans (congrArg Int32.toInt64 (Value.int.inj (Option.some.inj hr9)))⟩⟩
    · obtain ⟨hz9, c9, LN9, LF9, hc9, hT9, hA9⟩ := al_perform_n hJ.2.2.2.2.2.2.1 hA hT1 h72 rfl ht9 hX9 hQ2
      exact ⟨⟨_, _, _, _, _, _, _, _, _, _, _, _, _, _, _, _, _, Nat.le_trans hc9 (by omega), hC1.mw, hT9.mw, MR_MW, hJ2, hA9, ri_perform hRI hQ2, fun h => absurd h (Nat.succ_ne_zero _)⟩, hz9.trans (Eq.trans (by decide +kernel) hk9.symm), fun z => absurd (hk9.symm.trans z) (by decide)⟩
  refine x_st (st1 := [.int z2]) rfl ?_
  refine x_istore [(7, .int z2), (6, .int k1), (0, .ref b), (1, .ref (g.2 0)), (2, .ref (g.2 0 + 258)), (3, .ref (g.2 0 + 267)), (4, .ref (g.2 0 + 268)), (5, .int (nI i))] 1885 C0 dL_law_1883 rfl (by decide) rfl ?_
  refine x_aload_n 4 1886 C0 dL_law_1885 rfl rfl rfl ?_
  refine x_callV 1889 C0 (k_X8_thrown l hl g (MW g w1 tm2 v2 bf2 sv pa2 lb2 sg td2 sm) sz1 0 tm2 v2 bf2 sv pa2 lb2 sg td2 sm MR_MW hJ2) dL_law_1886 rfl mC_X8_thrown mM_L_130 mI_X8_thrown mV_X8_thrown mN_X8 yd_X8_thrown rfl rfl ⟨(Nat.le_of_ble_eq_true rfl), (Nat.le_of_ble_eq_true rfl)⟩ MR_MW.o rfl rfl rfl rfl (Nat.le_of_ble_eq_true rfl) ⟨by show k + 256 + 0 + 0 ≤ 600006; omega, by show q + 2500 + 0 + 0 ≤ 7302056; omega⟩ (fun _ _ _ z => False.elim z) (fun r3 w3 sz3 _ hP3 => ?_)
  obtain ⟨rfl, rfl, rfl⟩ := hP3
  refine x_st (st1 := [.int (tm2 0)]) rfl ?_
  refine x_iload 1 1891 C0 dL_law_1889 rfl rfl ?_
  refine x_icmp_eq 1896 1894 C0 dL_law_1891 rfl (by decide) (fun _ => ?_) (fun z => absurd hall2.2.1 z)
  refine x_iload 1 1898 C0 dL_law_1896 rfl rfl ?_
  refine x_if_ne 1913 1901 C0 dL_law_1898 rfl (by decide) (fun _ => ?_) (fun hk0 => ?_)
  · skip
    refine x_goto 2017 C0 dL_law_1913 (by decide) ?_
    exact x_widen (k + 256) (q + 2500) (by omega) (by omega) (x_lv [2, 3, 4, 5, 6, 7] rfl (kk _ _ _ ⟨hall2.1, hO1.mw, hD1.mw⟩))
  · obtain ⟨f9, hf9, hf90⟩ := hall2.2.2 hk0
    refine x_aload_n 5 1902 C0 dL_law_1901 rfl rfl rfl ?_
    refine x_iconst (v := 0) 1903 C0 dL_law_1902 rfl (by decide) ?_
    refine x_lald 3 1904 C0 dL_law_1903 rfl ((MW_ne (by omega)).trans hf9) rfl (by unfold vp_in; decide) ?_
    refine x_st (st1 := [.long (f9 0)]) rfl ?_
    refine x_iload 0 1906 C0 dL_law_1904 rfl rfl ?_
    refine x_i2l (v := (z2).toInt64) 1907 C0 dL_law_1906 rfl rfl ?_
    refine x_lcmpE 1908 C0 dL_law_1907 rfl hf90 ?_
    refine x_if_eq 1913 1911 C0 dL_law_1908 rfl (by decide) (fun _ => ?_) (fun z => absurd rfl z)
    refine x_goto 2017 C0 dL_law_1913 (by decide) ?_
    exact x_widen (k + 256) (q + 2500) (by omega) (by omega) (x_lv [2, 3, 4, 5, 6, 7] rfl (kk _ _ _ ⟨hall2.1, hO1.mw, hD1.mw⟩))
set_option maxHeartbeats 4000000 in
set_option maxRecDepth 100000 in
theorem law_c31 (hl : l.stackTraces = false) (C0 : xC p l s m args meth cD g cL_law 9 RL rt tb) (hX : va_X b L xs s s.heap) (hbl : b < s.heap.size) (hbA : ¬ xA g b) (hL : L ≤ 5) (i n k q B : Nat) (hi : i + 5 ≤ L) (hB : B ≤ 512) (hB0 : B = 0) (w : xw_T) (sz : Nat) (hI : LA g w sz n B) (hk : k + 256 ≤ 600006) (hq : q + 2500 ≤ 7302056) (kk : ∀ (w1 : xw_T) (sz1 n1 : Nat), LA g w1 sz1 n1 (B + 1) → xV p l e room_1 s m args below meth cD Q g 9 w1 sz1 (k + 256) (q + 2500) 2017 [(0, .ref b), (1, .ref (g.2 0)), (2, .ref (g.2 0 + 258)), (3, .ref (g.2 0 + 267)), (4, .ref (g.2 0 + 268)), (5, .int (nI i))] []) : xV p l e room_1 s m args below meth cD Q g 9 w sz k q 1916 [(0, .ref b), (1, .ref (g.2 0)), (2, .ref (g.2 0 + 258)), (3, .ref (g.2 0 + 267)), (4, .ref (g.2 0 + 268)), (5, .int (nI i))] [] := by
  obtain ⟨⟨x, la, t, tt, vb, sg, LN, LF, tm, v, bf, sv, pa, lb, td, sm, c0, hc0, hC, hT, hM, hJ, hA, hRI, hRR⟩, hO, hD⟩ := hI
  refine x_aload_n 1 1917 C0 dL_law_1916 rfl rfl rfl ?_
  refine x_aload_n 3 1918 C0 dL_law_1917 rfl rfl rfl ?_
  refine x_callSH 1921 C0 (e_L_undo l hl g w sz n x la t tt vb sg hC hO) dL_law_1918 rfl mC_L_undo mM_L_236 mS_L_undo mN_L yd_L_undo rfl rfl ⟨(Nat.le_of_ble_eq_true rfl), (Nat.le_of_ble_eq_true rfl)⟩ rfl rfl (Nat.le_of_ble_eq_true rfl) ⟨by show k + 8 ≤ 600006; omega, by show q + 64 ≤ 7302056; omega⟩ (fun _ _ _ z => False.elim z) (fun r1 w1 sz1 _ hP1 => ?_)
  obtain ⟨k1, x1, la1, t1, rfl, hz1, hF1, hC1, hd1⟩ := hP1
  have hO1 : wO g w1 := by
    rcases hd1 with ⟨-, v9, f9, -, h9, -⟩ | ⟨h9, -⟩
    · exact ⟨f9, h9⟩
    · exact h9
  have hM1 := hM.wf hF1 (Or.inl rfl) hC.zz
  have hT1 := hT.wf hF1 (Or.inl rfl) hz1
  have hD1 := hD.wf hF1 hC.zz
  refine x_st (st1 := [.int k1]) rfl ?_
  refine x_istore [(6, .int k1), (0, .ref b), (1, .ref (g.2 0)), (2, .ref (g.2 0 + 258)), (3, .ref (g.2 0 + 267)), (4, .ref (g.2 0 + 268)), (5, .int (nI i))] 1923 C0 dL_law_1921 rfl (by decide) rfl ?_
  refine x_aload_n 3 1924 C0 dL_law_1923 rfl rfl rfl ?_
  refine x_callV 1927 C0 (k_X8_undo l hl g w1 sz1 n tm v bf sv pa lb sg td sm hM1 hJ) dL_law_1924 rfl mC_X8_undo mM_L_238 mI_X8_undo mV_X8_undo mN_X8 yd_X8_undo rfl rfl ⟨(Nat.le_of_ble_eq_true rfl), (Nat.le_of_ble_eq_true rfl)⟩ hM1.o rfl rfl rfl rfl (Nat.le_of_ble_eq_true rfl) ⟨by show k + 8 + 0 ≤ 600006; omega, by show q + 64 + 0 ≤ 7302056; omega⟩ (fun _ _ _ z => False.elim z) (fun r2 w2 sz2 _ hP2 => ?_)
  obtain ⟨rfl, tm2, v2, rfl, hJ2, h72, hQ2⟩ := hP2
  have hQ2 : uP tm v pa r2 tm2 v2 := hQ2
  obtain ⟨z2, rfl⟩ : ∃ z : Int32, r2 = some (.int z) := hQ2.elim (fun z => ⟨0, z.2.2.1⟩) (fun ⟨c, _, _, _, _, q, _⟩ => ⟨_, q⟩)
  have hall2 : AI g (MW g w1 tm2 v2 bf sv pa lb sg td sm) sz1 n (B + 1) ∧ tm2 0 = k1 ∧ (k1 = 0 → ∃ f, wOf g w1 f ∧ f 0 = Int32.toInt64 z2) := by
    rcases hd1 with ⟨hk9, v9, f9, hL9, ho9, hf9⟩ | ⟨-, E9, hX9, hk9⟩
    · obtain ⟨hr9, hz9, c9, LN9, LF9, hc9, hT9, hA9⟩ := al_undo_y hA hT1 (by omega) h72 hQ2 hL9
      exact ⟨⟨_, _, _, _, _, _, _, _, _, _, _, _, _, _, _, _, _, Nat.le_trans hc9 (by omega), hC1.mw, hT9.mw, MR_MW, hJ2, hA9, hRI.un (by omega) hQ2, fun h => absurd h (Nat.succ_ne_zero _)⟩, hz9.trans hk9.symm, fun _ => ⟨f9, ho9, hf9.trans (congrArg Int32.toInt64 (Value.int.inj (Option.some.inj hr9)))⟩⟩
    · obtain ⟨hz9, c9, LN9, LF9, hc9, hT9, hA9⟩ := al_undo_n hA hT1 h72 hQ2 hX9
      exact ⟨⟨_, _, _, _, _, _, _, _, _, _, _, _, _, _, _, _, _, Nat.le_trans hc9 (by omega), hC1.mw, hT9.mw, MR_MW, hJ2, hA9, hRI.un (by omega) hQ2, fun h => absurd h (Nat.succ_ne_zero _)⟩, hz9.trans hk9.symm, fun z => absurd (hk9.symm.trans z) (kc_undo hX9)⟩
  refine x_st (st1 := [.int z2]) rfl ?_
  refine x_istore [(7, .int z2), (6, .int k1), (0, .ref b), (1, .ref (g.2 0)), (2, .ref (g.2 0 + 258)), (3, .ref (g.2 0 + 267)), (4, .ref (g.2 0 + 268)), (5, .int (nI i))] 1929 C0 dL_law_1927 rfl (by decide) rfl ?_
  refine x_aload_n 4 1930 C0 dL_law_1929 rfl rfl rfl ?_
  refine x_callV 1933 C0 (k_X8_thrown l hl g (MW g w1 tm2 v2 bf sv pa lb sg td sm) sz1 n tm2 v2 bf sv pa lb sg td sm MR_MW hJ2) dL_law_1930 rfl mC_X8_thrown mM_L_130 mI_X8_thrown mV_X8_thrown mN_X8 yd_X8_thrown rfl rfl ⟨(Nat.le_of_ble_eq_true rfl), (Nat.le_of_ble_eq_true rfl)⟩ MR_MW.o rfl rfl rfl rfl (Nat.le_of_ble_eq_true rfl) ⟨by show k + 8 + 0 + 0 ≤ 600006; omega, by show q + 64 + 0 + 0 ≤ 7302056; omega⟩ (fun _ _ _ z => False.elim z) (fun r3 w3 sz3 _ hP3 => ?_)
  obtain ⟨rfl, rfl, rfl⟩ := hP3
  refine x_st (st1 := [.int (tm2 0)]) rfl ?_
  refine x_iload 1 1935 C0 dL_law_1933 rfl rfl ?_
  refine x_icmp_eq 1940 1938 C0 dL_law_1935 rfl (by decide) (fun _ => ?_) (fun z => absurd hall2.2.1 z)
  refine x_iload 1 1942 C0 dL_law_1940 rfl rfl ?_
  refine x_if_ne 1957 1945 C0 dL_law_1942 rfl (by decide) (fun _ => ?_) (fun hk0 => ?_)
  · skip
    refine x_goto 2017 C0 dL_law_1957 (by decide) ?_
    exact x_widen (k + 256) (q + 2500) (by omega) (by omega) (x_lv [2, 3, 4, 5, 6, 7] rfl (kk _ _ _ ⟨hall2.1, hO1.mw, hD1.mw⟩))
  · obtain ⟨f9, hf9, hf90⟩ := hall2.2.2 hk0
    refine x_aload_n 5 1946 C0 dL_law_1945 rfl rfl rfl ?_
    refine x_iconst (v := 0) 1947 C0 dL_law_1946 rfl (by decide) ?_
    refine x_lald 3 1948 C0 dL_law_1947 rfl ((MW_ne (by omega)).trans hf9) rfl (by unfold vp_in; decide) ?_
    refine x_st (st1 := [.long (f9 0)]) rfl ?_
    refine x_iload 0 1950 C0 dL_law_1948 rfl rfl ?_
    refine x_i2l (v := (z2).toInt64) 1951 C0 dL_law_1950 rfl rfl ?_
    refine x_lcmpE 1952 C0 dL_law_1951 rfl hf90 ?_
    refine x_if_eq 1957 1955 C0 dL_law_1952 rfl (by decide) (fun _ => ?_) (fun z => absurd rfl z)
    refine x_goto 2017 C0 dL_law_1957 (by decide) ?_
    exact x_widen (k + 256) (q + 2500) (by omega) (by omega) (x_lv [2, 3, 4, 5, 6, 7] rfl (kk _ _ _ ⟨hall2.1, hO1.mw, hD1.mw⟩))
set_option maxHeartbeats 4000000 in
set_option maxRecDepth 100000 in
theorem law_c32 (hl : l.stackTraces = false) (C0 : xC p l s m args meth cD g cL_law 9 RL rt tb) (hX : va_X b L xs s s.heap) (hbl : b < s.heap.size) (hbA : ¬ xA g b) (hL : L ≤ 5) (i n k q B : Nat) (hi : i + 5 ≤ L) (hB : B ≤ 512) (hB0 : B = 0) (w : xw_T) (sz : Nat) (hI : LA g w sz n B) (hk : k + 256 ≤ 600006) (hq : q + 2500 ≤ 7302056) (kk : ∀ (w1 : xw_T) (sz1 n1 : Nat), LA g w1 sz1 n1 (B + 1) → xV p l e room_1 s m args below meth cD Q g 9 w1 sz1 (k + 256) (q + 2500) 2017 [(0, .ref b), (1, .ref (g.2 0)), (2, .ref (g.2 0 + 258)), (3, .ref (g.2 0 + 267)), (4, .ref (g.2 0 + 268)), (5, .int (nI i))] []) : xV p l e room_1 s m args below meth cD Q g 9 w sz k q 1960 [(0, .ref b), (1, .ref (g.2 0)), (2, .ref (g.2 0 + 258)), (3, .ref (g.2 0 + 267)), (4, .ref (g.2 0 + 268)), (5, .int (nI i))] [] := by
  obtain ⟨⟨x, la, t, tt, vb, sg, LN, LF, tm, v, bf, sv, pa, lb, td, sm, c0, hc0, hC, hT, hM, hJ, hA, hRI, hRR⟩, hO, hD⟩ := hI
  refine x_aload_n 1 1961 C0 dL_law_1960 rfl rfl rfl ?_
  refine x_callV 1964 C0 (e_X7_save l hl g w sz n x la t tt vb sg hC) dL_law_1961 rfl mC_X7_save mM_L_239 mI_X7_save mV_X7_save mN_X7 yd_X7_save rfl rfl ⟨(Nat.le_of_ble_eq_true rfl), (Nat.le_of_ble_eq_true rfl)⟩ hC.1.1 rfl rfl rfl rfl (Nat.le_of_ble_eq_true rfl) ⟨by show k + 8 ≤ 600006; omega, by show q + 64 ≤ 7302056; omega⟩ (fun _ _ _ z => False.elim z) (fun r1 w1 sz1 _ hP1 => ?_)
  obtain ⟨⟨k1, rfl⟩, hF1, hz1, x1, la1, t1, hC1, hL1⟩ := hP1
  have hM1 := hM.wf (hF1.wf (a := 267)) (Or.inl rfl) hC.zz
  have hT1 := hT.wf (hF1.wf (a := 267)) (Or.inl rfl) hz1
  have hO1 := hO.xf hF1 hC.zz
  have hD1 := hD.wf hF1.wf hC.zz
  refine x_st (st1 := [.int k1]) rfl ?_
  refine x_aload_n 2 1965 C0 dL_law_1964 rfl rfl rfl ?_
  refine x_callV 1968 C0 (k_X8_save l hl g w1 sz1 n tm v bf sv pa lb sg td sm hM1 hJ) dL_law_1965 rfl mC_X8_save mM_L_242 mI_X8_save mV_X8_save mN_X8 yd_X8_save rfl rfl ⟨(Nat.le_of_ble_eq_true rfl), (Nat.le_of_ble_eq_true rfl)⟩ hM1.o rfl rfl rfl rfl (Nat.le_of_ble_eq_true rfl) ⟨by show k + 8 + 0 ≤ 600006; omega, by show q + 64 + 0 ≤ 7302056; omega⟩ (fun _ _ _ z => False.elim z) (fun r2 w2 sz2 _ hP2 => ?_)
  obtain ⟨rfl, tm2, sv2, rfl, hJ2, h72, h22, h02, rfl, hs2⟩ := hP2
  obtain ⟨z2, hzz2⟩ : ∃ z : Int32, z = v 0 := ⟨_, rfl⟩
  obtain ⟨hr9, c9, LN9, LF9, hc9, hT9, hA9⟩ := al_save hA hT1 h72 h22 rfl hs2 hL1
  have hall2 : AI g (MW g w1 tm2 v bf sv2 pa lb sg td sm) sz1 n (B + 1) := ⟨_, _, _, _, _, _, _, _, _, _, _, _, _, _, _, _, _, Nat.le_trans hc9 (by omega), hC1.mw, hT9.mw, MR_MW, hJ2, hA9, hRI.svd h22 hs2 (by omega), fun h => absurd h (Nat.succ_ne_zero _)⟩
  refine x_st (st1 := [.int (v 0), .int k1]) rfl ?_
  refine x_icmp_eq 2017 1971 C0 dL_law_1968 rfl (by decide) (fun _ => ?_) (fun z => absurd (Value.int.inj (Option.some.inj hr9)) z)
  exact x_widen (k + 256) (q + 2500) (by omega) (by omega) (x_lv [0, 1, 2, 3, 4, 5] rfl (kk _ _ _ ⟨hall2, hO1.mw, hD1.mw⟩))
set_option maxHeartbeats 4000000 in
set_option maxRecDepth 100000 in
theorem law_c33 (hl : l.stackTraces = false) (C0 : xC p l s m args meth cD g cL_law 9 RL rt tb) (hX : va_X b L xs s s.heap) (hbl : b < s.heap.size) (hbA : ¬ xA g b) (hL : L ≤ 5) (i n k q B : Nat) (hi : i + 5 ≤ L) (hB : B ≤ 512) (hB0 : B = 0) (w : xw_T) (sz : Nat) (hI : LA g w sz n B) (hk : k + 256 ≤ 600006) (hq : q + 2500 ≤ 7302056) (kk : ∀ (w1 : xw_T) (sz1 n1 : Nat), LA g w1 sz1 n1 (B + 1) → xV p l e room_1 s m args below meth cD Q g 9 w1 sz1 (k + 256) (q + 2500) 2017 [(0, .ref b), (1, .ref (g.2 0)), (2, .ref (g.2 0 + 258)), (3, .ref (g.2 0 + 267)), (4, .ref (g.2 0 + 268)), (5, .int (nI i))] []) : xV p l e room_1 s m args below meth cD Q g 9 w sz k q 1973 [(0, .ref b), (1, .ref (g.2 0)), (2, .ref (g.2 0 + 258)), (3, .ref (g.2 0 + 267)), (4, .ref (g.2 0 + 268)), (5, .int (nI i))] [] := by
  obtain ⟨⟨x, la, t, tt, vb, sg, LN, LF, tm, v, bf, sv, pa, lb, td, sm, c0, hc0, hC, hT, hM, hJ, hA, hRI, hRR⟩, hO, hD⟩ := hI
  refine x_aload_n 1 1974 C0 dL_law_1973 rfl rfl rfl ?_
  refine x_aload_n 3 1975 C0 dL_law_1974 rfl rfl rfl ?_
  refine x_callSH 1978 C0 (e_L_restore l hl g w sz n x la t tt vb sg hC hO) dL_law_1975 rfl mC_L_restore mM_L_243 mS_L_restore mN_L yd_L_restore rfl rfl ⟨(Nat.le_of_ble_eq_true rfl), (Nat.le_of_ble_eq_true rfl)⟩ rfl rfl (Nat.le_of_ble_eq_true rfl) ⟨by show k + 8 ≤ 600006; omega, by show q + 64 ≤ 7302056; omega⟩ (fun _ _ _ z => False.elim z) (fun r1 w1 sz1 _ hP1 => ?_)
  obtain ⟨k1, x1, la1, t1, rfl, hz1, hF1, hC1, hd1⟩ := hP1
  have hO1 : wO g w1 := by
    rcases hd1 with ⟨-, v9, f9, -, h9, -⟩ | ⟨h9, -⟩
    · exact ⟨f9, h9⟩
    · exact h9
  have hM1 := hM.wf hF1 (Or.inl rfl) hC.zz
  have hT1 := hT.wf hF1 (Or.inl rfl) hz1
  have hD1 := hD.wf hF1 hC.zz
  refine x_st (st1 := [.int k1]) rfl ?_
  refine x_istore [(6, .int k1), (0, .ref b), (1, .ref (g.2 0)), (2, .ref (g.2 0 + 258)), (3, .ref (g.2 0 + 267)), (4, .ref (g.2 0 + 268)), (5, .int (nI i))] 1980 C0 dL_law_1978 rfl (by decide) rfl ?_
  refine x_aload_n 3 1981 C0 dL_law_1980 rfl rfl rfl ?_
  refine x_callV 1984 C0 (k_X8_restore l hl g w1 sz1 n tm v bf sv pa lb sg td sm hM1 hJ) dL_law_1981 rfl mC_X8_restore mM_L_245 mI_X8_restore mV_X8_restore mN_X8 yd_X8_restore rfl rfl ⟨(Nat.le_of_ble_eq_true rfl), (Nat.le_of_ble_eq_true rfl)⟩ hM1.o rfl rfl rfl rfl (Nat.le_of_ble_eq_true rfl) ⟨by show k + 8 + 0 ≤ 600006; omega, by show q + 64 + 0 ≤ 7302056; omega⟩ (fun _ _ _ z => False.elim z) (fun r2 w2 sz2 _ hP2 => ?_)
  obtain ⟨rfl, tm2, v2, rfl, hJ2, h72, hQ2⟩ := hP2
  have hQ2 : reP tm v sv r2 tm2 v2 := hQ2
  obtain ⟨z2, rfl⟩ : ∃ z : Int32, r2 = some (.int z) := hQ2.elim (fun z => ⟨0, z.2.2.1⟩) (fun z => ⟨_, z.2.2.2.2⟩)
  have hall2 : AI g (MW g w1 tm2 v2 bf sv pa lb sg td sm) sz1 n (B + 1) ∧ tm2 0 = k1 ∧ (k1 = 0 → ∃ f, wOf g w1 f ∧ f 0 = Int32.toInt64 z2) := by
    rcases hd1 with ⟨hk9, v9, f9, hL9, ho9, hf9⟩ | ⟨-, E9, hX9, hk9⟩
    · obtain ⟨hr9, hz9, c9, LN9, LF9, hc9, hT9, hA9⟩ := al_restore_y hA hT1 h72 hQ2 hL9
      exact ⟨⟨_, _, _, _, _, _, _, _, _, _, _, _, _, _, _, _, _, Nat.le_trans hc9 (by omega), hC1.mw, hT9.mw, MR_MW, hJ2, hA9, hRI.re (by omega) hQ2, fun h => absurd h (Nat.succ_ne_zero _)⟩, hz9.trans hk9.symm, fun _ => ⟨f9, ho9, hf9.trans (congrArg Int32.toInt64 (Value.int.inj (Option.some.inj hr9)))⟩⟩
    · obtain ⟨hz9, c9, LN9, LF9, hc9, hT9, hA9⟩ := al_restore_n hA hT1 h72 hQ2 hX9
      exact ⟨⟨_, _, _, _, _, _, _, _, _, _, _, _, _, _, _, _, _, Nat.le_trans hc9 (by omega), hC1.mw, hT9.mw, MR_MW, hJ2, hA9, hRI.re (by omega) hQ2, fun h => absurd h (Nat.succ_ne_zero _)⟩, hz9.trans hk9.symm, fun z => absurd (hk9.symm.trans z) (kc_restore hX9)⟩
  refine x_st (st1 := [.int z2]) rfl ?_
  refine x_istore [(7, .int z2), (6, .int k1), (0, .ref b), (1, .ref (g.2 0)), (2, .ref (g.2 0 + 258)), (3, .ref (g.2 0 + 267)), (4, .ref (g.2 0 + 268)), (5, .int (nI i))] 1986 C0 dL_law_1984 rfl (by decide) rfl ?_
  refine x_aload_n 4 1987 C0 dL_law_1986 rfl rfl rfl ?_
  refine x_callV 1990 C0 (k_X8_thrown l hl g (MW g w1 tm2 v2 bf sv pa lb sg td sm) sz1 n tm2 v2 bf sv pa lb sg td sm MR_MW hJ2) dL_law_1987 rfl mC_X8_thrown mM_L_130 mI_X8_thrown mV_X8_thrown mN_X8 yd_X8_thrown rfl rfl ⟨(Nat.le_of_ble_eq_true rfl), (Nat.le_of_ble_eq_true rfl)⟩ MR_MW.o rfl rfl rfl rfl (Nat.le_of_ble_eq_true rfl) ⟨by show k + 8 + 0 + 0 ≤ 600006; omega, by show q + 64 + 0 + 0 ≤ 7302056; omega⟩ (fun _ _ _ z => False.elim z) (fun r3 w3 sz3 _ hP3 => ?_)
  obtain ⟨rfl, rfl, rfl⟩ := hP3
  refine x_st (st1 := [.int (tm2 0)]) rfl ?_
  refine x_iload 1 1992 C0 dL_law_1990 rfl rfl ?_
  refine x_icmp_eq 1997 1995 C0 dL_law_1992 rfl (by decide) (fun _ => ?_) (fun z => absurd hall2.2.1 z)
  refine x_iload 1 1999 C0 dL_law_1997 rfl rfl ?_
  refine x_if_ne 2014 2002 C0 dL_law_1999 rfl (by decide) (fun _ => ?_) (fun hk0 => ?_)
  · skip
    refine x_goto 2017 C0 dL_law_2014 (by decide) ?_
    exact x_widen (k + 256) (q + 2500) (by omega) (by omega) (x_lv [2, 3, 4, 5, 6, 7] rfl (kk _ _ _ ⟨hall2.1, hO1.mw, hD1.mw⟩))
  · obtain ⟨f9, hf9, hf90⟩ := hall2.2.2 hk0
    refine x_aload_n 5 2003 C0 dL_law_2002 rfl rfl rfl ?_
    refine x_iconst (v := 0) 2004 C0 dL_law_2003 rfl (by decide) ?_
    refine x_lald 3 2005 C0 dL_law_2004 rfl ((MW_ne (by omega)).trans hf9) rfl (by unfold vp_in; decide) ?_
    refine x_st (st1 := [.long (f9 0)]) rfl ?_
    refine x_iload 0 2007 C0 dL_law_2005 rfl rfl ?_
    refine x_i2l (v := (z2).toInt64) 2008 C0 dL_law_2007 rfl rfl ?_
    refine x_lcmpE 2009 C0 dL_law_2008 rfl hf90 ?_
    refine x_if_eq 2014 2012 C0 dL_law_2009 rfl (by decide) (fun _ => ?_) (fun z => absurd rfl z)
    refine x_goto 2017 C0 dL_law_2014 (by decide) ?_
    exact x_widen (k + 256) (q + 2500) (by omega) (by omega) (x_lv [2, 3, 4, 5, 6, 7] rfl (kk _ _ _ ⟨hall2.1, hO1.mw, hD1.mw⟩))
set_option maxHeartbeats 4000000 in
set_option maxRecDepth 100000 in
theorem law_loop (hl : l.stackTraces = false) (C0 : xC p l s m args meth cD g cL_law 9 RL rt tb) (hX : va_X b L xs s s.heap) (hbl : b < s.heap.size) (hbA : ¬ xA g b) (hL : L ≤ 5) (hEnd : ∀ (w : xw_T) (sz k q : Nat) (lv : List (Nat × Value)), k ≤ 600006 → q ≤ 7302056 → xV p l e room_1 s m args below meth cD Q g 9 w sz k q 2024 lv [.int 1]) : ∀ (N i j : Nat) (w : xw_T) (sz n k q : Nat), L + 5 - i < N → i = 5 * j → i ≤ L → k ≤ 272 + 256 * j → q ≤ 5377 + 2500 * j → LA g w sz n j → xV p l e room_1 s m args below meth cD Q g 9 w sz k q 28 [(0, .ref b), (1, .ref (g.2 0)), (2, .ref (g.2 0 + 258)), (3, .ref (g.2 0 + 267)), (4, .ref (g.2 0 + 268)), (5, .int (nI i))] [] := by
  intro N
  induction N with
  | zero => intro i j w sz n k q h1; omega
  | succ N ih =>
    intro i j w sz n k q hN hij hiL hk hq hI
    refine x_iload 5 30 C0 dL_law_28 rfl rfl ?_
    refine x_aload_n 0 31 C0 dL_law_30 rfl rfl rfl ?_
    refine x_slen 32 C0 hX hbl hbA dL_law_31 rfl ?_
    refine x_iconst (v := 5) 33 C0 dL_law_32 rfl (by decide) ?_
    refine x_isub 34 C0 dL_law_33 rfl ?_
    refine x_icmp_gt 2023 37 C0 dL_law_34 rfl (by decide) (fun _ => ?_) (fun hc => ?_)
    · refine x_iconst (v := 1) 2024 C0 dL_law_2023 rfl (by decide) ?_
      exact hEnd _ _ _ _ _ (by omega) (by omega)
    · have hi := law_ix (Nat.le_trans hL (by decide)) (by omega) hc
      have kk : ∀ (w1 : xw_T) (sz1 n1 : Nat), LA g w1 sz1 n1 (j + 1) → xV p l e room_1 s m args below meth cD Q g 9 w1 sz1 (k + 256) (q + 2500) 2017 [(0, .ref b), (1, .ref (g.2 0)), (2, .ref (g.2 0 + 258)), (3, .ref (g.2 0 + 267)), (4, .ref (g.2 0 + 268)), (5, .int (nI i))] [] := by
        intro w1 sz1 n1 hI1
        refine x_iinc [(5, .int (nI (i + 5))), (0, .ref b), (1, .ref (g.2 0)), (2, .ref (g.2 0 + 258)), (3, .ref (g.2 0 + 267)), (4, .ref (g.2 0 + 268))] 5 2020 C0 dL_law_2017 rfl rfl (nI_add i 5) (by decide) rfl ?_
        refine x_goto 28 C0 dL_law_2020 (by decide) ?_
        exact x_lv [1, 2, 3, 4, 5, 0] rfl (ih (i + 5) (j + 1) w1 sz1 n1 _ _ (by omega) (by omega) (by omega) (by omega) (by omega) hI1)
      refine x_aload_n 0 38 C0 dL_law_37 rfl rfl rfl ?_
      refine x_iload 5 40 C0 dL_law_38 rfl rfl ?_
      refine x_sld 41 C0 hX hbl hbA (vp_in_nI (n := i) (by omega) (by omega)) dL_law_40 rfl ?_
      refine x_bipush (v := 63) 43 C0 dL_law_41 rfl (by decide) ?_
      refine x_iand 44 C0 dL_law_43 rfl ?_
      obtain ⟨x, hx⟩ : ∃ x : Int32, xs (nI i).toNatClampNeg &&& 63 = x := ⟨_, rfl⟩
      refine x_st (st1 := [.int x]) (congrArg (fun z => [Value.int z]) hx) ?_
      clear hx
      have hs : (x.toInt < 0 ∨ 33 < x.toInt) ∨ x.toInt = 0 ∨ x.toInt = 1 ∨ x.toInt = 2 ∨ x.toInt = 3 ∨ x.toInt = 4 ∨ x.toInt = 5 ∨ x.toInt = 6 ∨ x.toInt = 7 ∨ x.toInt = 8 ∨ x.toInt = 9 ∨ x.toInt = 10 ∨ x.toInt = 11 ∨ x.toInt = 12 ∨ x.toInt = 13 ∨ x.toInt = 14 ∨ x.toInt = 15 ∨ x.toInt = 16 ∨ x.toInt = 17 ∨ x.toInt = 18 ∨ x.toInt = 19 ∨ x.toInt = 20 ∨ x.toInt = 21 ∨ x.toInt = 22 ∨ x.toInt = 23 ∨ x.toInt = 24 ∨ x.toInt = 25 ∨ x.toInt = 26 ∨ x.toInt = 27 ∨ x.toInt = 28 ∨ x.toInt = 29 ∨ x.toInt = 30 ∨ x.toInt = 31 ∨ x.toInt = 32 ∨ x.toInt = 33 := by omega
      rcases hs with hs | hs | hs | hs | hs | hs | hs | hs | hs | hs | hs | hs | hs | hs | hs | hs | hs | hs | hs | hs | hs | hs | hs | hs | hs | hs | hs | hs | hs | hs | hs | hs | hs | hs | hs
      · exact x_tabOut 2017 C0 dL_law_44 hs (by decide) (x_widen (k + 256) (q + 2500) (by omega) (by omega) (kk _ _ _ hI.more))
      · obtain rfl : x = 0 := Int32.toInt_inj.mp (hs.trans rfl)
        exact x_tabIn 196 C0 (x := 0) dL_law_44 (by decide) (by decide) rfl (by decide) (law_c0 hl C0 hX hbl hbA hL i n k q j hi (by omega) (by omega) w sz hI (by omega) (by omega) kk)
      · obtain rfl : x = 1 := Int32.toInt_inj.mp (hs.trans rfl)
        exact x_tabIn 276 C0 (x := 1) dL_law_44 (by decide) (by decide) rfl (by decide) (law_c1 hl C0 hX hbl hbA hL i n k q j hi (by omega) (by omega) w sz hI (by omega) (by omega) kk)
      · obtain rfl : x = 2 := Int32.toInt_inj.mp (hs.trans rfl)
        exact x_tabIn 344 C0 (x := 2) dL_law_44 (by decide) (by decide) rfl (by decide) (law_c2 hl C0 hX hbl hbA hL i n k q j hi (by omega) (by omega) w sz hI (by omega) (by omega) kk)
      · obtain rfl : x = 3 := Int32.toInt_inj.mp (hs.trans rfl)
        exact x_tabIn 357 C0 (x := 3) dL_law_44 (by decide) (by decide) rfl (by decide) (law_c3 hl C0 hX hbl hbA hL i n k q j hi (by omega) (by omega) w sz hI (by omega) (by omega) kk)
      · obtain rfl : x = 4 := Int32.toInt_inj.mp (hs.trans rfl)
        exact x_tabIn 441 C0 (x := 4) dL_law_44 (by decide) (by decide) rfl (by decide) (law_c4 hl C0 hX hbl hbA hL i n k q j hi (by omega) (by omega) w sz hI (by omega) (by omega) kk)
      · obtain rfl : x = 5 := Int32.toInt_inj.mp (hs.trans rfl)
        exact x_tabIn 497 C0 (x := 5) dL_law_44 (by decide) (by decide) rfl (by decide) (law_c5 hl C0 hX hbl hbA hL i n k q j hi (by omega) (by omega) w sz hI (by omega) (by omega) kk)
      · obtain rfl : x = 6 := Int32.toInt_inj.mp (hs.trans rfl)
        exact x_tabIn 553 C0 (x := 6) dL_law_44 (by decide) (by decide) rfl (by decide) (law_c6 hl C0 hX hbl hbA hL i n k q j hi (by omega) (by omega) w sz hI (by omega) (by omega) kk)
      · obtain rfl : x = 7 := Int32.toInt_inj.mp (hs.trans rfl)
        exact x_tabIn 645 C0 (x := 7) dL_law_44 (by decide) (by decide) rfl (by decide) (law_c7 hl C0 hX hbl hbA hL i n k q j hi (by omega) (by omega) w sz hI (by omega) (by omega) kk)
      · obtain rfl : x = 8 := Int32.toInt_inj.mp (hs.trans rfl)
        exact x_tabIn 701 C0 (x := 8) dL_law_44 (by decide) (by decide) rfl (by decide) (law_c8 hl C0 hX hbl hbA hL i n k q j hi (by omega) (by omega) w sz hI (by omega) (by omega) kk)
      · obtain rfl : x = 9 := Int32.toInt_inj.mp (hs.trans rfl)
        exact x_tabIn 776 C0 (x := 9) dL_law_44 (by decide) (by decide) rfl (by decide) (law_c9 hl C0 hX hbl hbA hL i n k q j hi (by omega) (by omega) w sz hI (by omega) (by omega) kk)
      · obtain rfl : x = 10 := Int32.toInt_inj.mp (hs.trans rfl)
        exact x_tabIn 832 C0 (x := 10) dL_law_44 (by decide) (by decide) rfl (by decide) (law_c10 hl C0 hX hbl hbA hL i n k q j hi (by omega) (by omega) w sz hI (by omega) (by omega) kk)
      · obtain rfl : x = 11 := Int32.toInt_inj.mp (hs.trans rfl)
        exact x_tabIn 888 C0 (x := 11) dL_law_44 (by decide) (by decide) rfl (by decide) (law_c11 hl C0 hX hbl hbA hL i n k q j hi (by omega) (by omega) w sz hI (by omega) (by omega) kk)
      · obtain rfl : x = 12 := Int32.toInt_inj.mp (hs.trans rfl)
        exact x_tabIn 956 C0 (x := 12) dL_law_44 (by decide) (by decide) rfl (by decide) (law_c12 hl C0 hX hbl hbA hL i n k q j hi (by omega) (by omega) w sz hI (by omega) (by omega) kk)
      · obtain rfl : x = 13 := Int32.toInt_inj.mp (hs.trans rfl)
        exact x_tabIn 1024 C0 (x := 13) dL_law_44 (by decide) (by decide) rfl (by decide) (law_c13 hl C0 hX hbl hbA hL i n k q j hi (by omega) (by omega) w sz hI (by omega) (by omega) kk)
      · obtain rfl : x = 14 := Int32.toInt_inj.mp (hs.trans rfl)
        exact x_tabIn 1080 C0 (x := 14) dL_law_44 (by decide) (by decide) rfl (by decide) (law_c14 hl C0 hX hbl hbA hL i n k q j hi (by omega) (by omega) w sz hI (by omega) (by omega) kk)
      · obtain rfl : x = 15 := Int32.toInt_inj.mp (hs.trans rfl)
        exact x_tabIn 1136 C0 (x := 15) dL_law_44 (by decide) (by decide) rfl (by decide) (law_c15 hl C0 hX hbl hbA hL i n k q j hi (by omega) (by omega) w sz hI (by omega) (by omega) kk)
      · obtain rfl : x = 16 := Int32.toInt_inj.mp (hs.trans rfl)
        exact x_tabIn 1192 C0 (x := 16) dL_law_44 (by decide) (by decide) rfl (by decide) (law_c16 hl C0 hX hbl hbA hL i n k q j hi (by omega) (by omega) w sz hI (by omega) (by omega) kk)
      · obtain rfl : x = 17 := Int32.toInt_inj.mp (hs.trans rfl)
        exact x_tabIn 1248 C0 (x := 17) dL_law_44 (by decide) (by decide) rfl (by decide) (law_c17 hl C0 hX hbl hbA hL i n k q j hi (by omega) (by omega) w sz hI (by omega) (by omega) kk)
      · obtain rfl : x = 18 := Int32.toInt_inj.mp (hs.trans rfl)
        exact x_tabIn 1292 C0 (x := 18) dL_law_44 (by decide) (by decide) rfl (by decide) (law_c18 hl C0 hX hbl hbA hL i n k q j hi (by omega) (by omega) w sz hI (by omega) (by omega) kk)
      · obtain rfl : x = 19 := Int32.toInt_inj.mp (hs.trans rfl)
        exact x_tabIn 1305 C0 (x := 19) dL_law_44 (by decide) (by decide) rfl (by decide) (law_c19 hl C0 hX hbl hbA hL i n k q j hi (by omega) (by omega) w sz hI (by omega) (by omega) kk)
      · obtain rfl : x = 20 := Int32.toInt_inj.mp (hs.trans rfl)
        exact x_tabIn 1361 C0 (x := 20) dL_law_44 (by decide) (by decide) rfl (by decide) (law_c20 hl C0 hX hbl hbA hL i n k q j hi (by omega) (by omega) w sz hI (by omega) (by omega) kk)
      · obtain rfl : x = 21 := Int32.toInt_inj.mp (hs.trans rfl)
        exact x_tabIn 1417 C0 (x := 21) dL_law_44 (by decide) (by decide) rfl (by decide) (law_c21 hl C0 hX hbl hbA hL i n k q j hi (by omega) (by omega) w sz hI (by omega) (by omega) kk)
      · obtain rfl : x = 22 := Int32.toInt_inj.mp (hs.trans rfl)
        exact x_tabIn 1430 C0 (x := 22) dL_law_44 (by decide) (by decide) rfl (by decide) (law_c22 hl C0 hX hbl hbA hL i n k q j hi (by omega) (by omega) w sz hI (by omega) (by omega) kk)
      · obtain rfl : x = 23 := Int32.toInt_inj.mp (hs.trans rfl)
        exact x_tabIn 1486 C0 (x := 23) dL_law_44 (by decide) (by decide) rfl (by decide) (law_c23 hl C0 hX hbl hbA hL i n k q j hi (by omega) (by omega) w sz hI (by omega) (by omega) kk)
      · obtain rfl : x = 24 := Int32.toInt_inj.mp (hs.trans rfl)
        exact x_tabIn 1542 C0 (x := 24) dL_law_44 (by decide) (by decide) rfl (by decide) (law_c24 hl C0 hX hbl hbA hL i n k q j hi (by omega) (by omega) w sz hI (by omega) (by omega) kk)
      · obtain rfl : x = 25 := Int32.toInt_inj.mp (hs.trans rfl)
        exact x_tabIn 1555 C0 (x := 25) dL_law_44 (by decide) (by decide) rfl (by decide) (law_c25 hl C0 hX hbl hbA hL i n k q j hi (by omega) (by omega) w sz hI (by omega) (by omega) kk)
      · obtain rfl : x = 26 := Int32.toInt_inj.mp (hs.trans rfl)
        exact x_tabIn 1620 C0 (x := 26) dL_law_44 (by decide) (by decide) rfl (by decide) (law_c26 hl C0 hX hbl hbA hL i n k q j hi (by omega) (by omega) w sz hI (by omega) (by omega) kk)
      · obtain rfl : x = 27 := Int32.toInt_inj.mp (hs.trans rfl)
        exact x_tabIn 1686 C0 (x := 27) dL_law_44 (by decide) (by decide) rfl (by decide) (law_c27 hl C0 hX hbl hbA hL i n k q j hi (by omega) (by omega) w sz hI (by omega) (by omega) kk)
      · obtain rfl : x = 28 := Int32.toInt_inj.mp (hs.trans rfl)
        exact x_tabIn 1758 C0 (x := 28) dL_law_44 (by decide) (by decide) rfl (by decide) (law_c28 hl C0 hX hbl hbA hL i n k q j hi (by omega) (by omega) w sz hI (by omega) (by omega) kk)
      · obtain rfl : x = 29 := Int32.toInt_inj.mp (hs.trans rfl)
        exact x_tabIn 1814 C0 (x := 29) dL_law_44 (by decide) (by decide) rfl (by decide) (law_c29 hl C0 hX hbl hbA hL i n k q j hi (by omega) (by omega) w sz hI (by omega) (by omega) kk)
      · obtain rfl : x = 30 := Int32.toInt_inj.mp (hs.trans rfl)
        exact x_tabIn 1872 C0 (x := 30) dL_law_44 (by decide) (by decide) rfl (by decide) (law_c30 hl C0 hX hbl hbA hL i n k q j hi (by omega) (by omega) w sz hI (by omega) (by omega) kk)
      · obtain rfl : x = 31 := Int32.toInt_inj.mp (hs.trans rfl)
        exact x_tabIn 1916 C0 (x := 31) dL_law_44 (by decide) (by decide) rfl (by decide) (law_c31 hl C0 hX hbl hbA hL i n k q j hi (by omega) (by omega) w sz hI (by omega) (by omega) kk)
      · obtain rfl : x = 32 := Int32.toInt_inj.mp (hs.trans rfl)
        exact x_tabIn 1960 C0 (x := 32) dL_law_44 (by decide) (by decide) rfl (by decide) (law_c32 hl C0 hX hbl hbA hL i n k q j hi (by omega) (by omega) w sz hI (by omega) (by omega) kk)
      · obtain rfl : x = 33 := Int32.toInt_inj.mp (hs.trans rfl)
        exact x_tabIn 1973 C0 (x := 33) dL_law_44 (by decide) (by decide) rfl (by decide) (law_c33 hl C0 hX hbl hbA hL i n k q j hi (by omega) (by omega) w sz hI (by omega) (by omega) kk)
end LC
