/-! THE LAW'S CASES AND ITS LOOP -/
def AI (g : xg_T) (w : xw_T) (sz n B : Nat) : Prop := ∃ x la t tt vb sg LN LF tm v bf sv pa lb td sm c0, c0 ≤ B ∧ CR g w sz n x la t tt vb sg ∧ TX g w sz la LN LF ∧ MR g w tm v bf sv pa lb sg td sm ∧ MJ n tm v bf sv pa sm ∧ AL x t LN LF c0 tm v sv pa
def LA (g : xg_T) (w : xw_T) (sz n B : Nat) : Prop := AI g w sz n B ∧ wO g w ∧ wD g w
section LR
variable {g : xg_T} {w w1 : xw_T} {sz sz1 n a : Nat} {t v bf sv pa lb ip td sg : Nat → Int32} {la : Nat → Nat → Nat} {LN : Nat → Nat → Nat} {LF : Nat → Nat → Nat → Int32}
theorem MR.wf (h : MR g w t v bf sv pa lb ip td sg) (hF : wFr g w w1 sz a) (ha : a = 267 ∨ a = 268) (hz : g.2 0 + 269 ≤ sz) : MR g w1 t v bf sv pa lb ip td sg := fun j hj => (hF _ (by omega) (by omega) (by omega)).trans (h j hj)
theorem TX.wf (h : TX g w sz la LN LF) (hF : wFr g w w1 sz a) (ha : a = 267 ∨ a = 268) (hz : sz ≤ sz1) : TX g w1 sz1 la LN LF := fun i hi k hk => (h i hi k hk).go (fun q q1 q2 => hF q (by omega) q2 (by omega)) hz
theorem wD.wf (h : wD g w) (hF : wFr g w w1 sz 267) (hz : g.2 0 + 269 ≤ sz) : wD g w1 := by
  obtain ⟨f, h⟩ := h
  exact ⟨f, (hF _ (by omega) (by omega) (by omega)).trans h⟩
theorem wO.wf (h : wO g w) (hF : wFr g w w1 sz 268) (hz : g.2 0 + 269 ≤ sz) : wO g w1 := by
  obtain ⟨f, h⟩ := h
  exact ⟨f, (hF _ (by omega) (by omega) (by omega)).trans h⟩
theorem wO.xf (h : wO g w) (hF : xFr g w w1 sz) (hz : g.2 0 + 269 ≤ sz) : wO g w1 := by
  obtain ⟨f, h⟩ := h
  exact ⟨f, hF.o hz h⟩
theorem CR.mw {x : Nat → Nat → Int32} {t0 tt : Nat → Int32} {vb : Option Nat} {s0 : Nat → Int32} (h : CR g w sz n x la t0 tt vb s0) : CR g (MW g w t v bf sv pa lb ip td sg) sz n x la t0 tt vb s0 := h.go (fun q q1 q2 => MW_ne (by omega)) (fun q q1 q2 => MW_ne (by omega)) (Nat.le_refl _)
theorem TX.mw (h : TX g w sz la LN LF) : TX g (MW g w t v bf sv pa lb ip td sg) sz la LN LF := fun i hi k hk => (h i hi k hk).go (fun q q1 q2 => MW_ne (by omega)) (Nat.le_refl _)
theorem wO.mw (h : wO g w) : wO g (MW g w t v bf sv pa lb ip td sg) := by
  obtain ⟨f, h⟩ := h
  exact ⟨f, (MW_ne (by omega)).trans h⟩
theorem wD.mw (h : wD g w) : wD g (MW g w t v bf sv pa lb ip td sg) := by
  obtain ⟨f, h⟩ := h
  exact ⟨f, (MW_ne (by omega)).trans h⟩
theorem AL.tm {x : Nat → Nat → Int32} {t0 tm tm' v0 sv0 pa0 : Nat → Int32} {c0 : Nat} (h : AL x t0 LN LF c0 tm v0 sv0 pa0) (h2 : tm' 2 = tm 2) (h7 : tm' 7 = tm 7) : AL x t0 LN LF c0 tm' v0 sv0 pa0 := AL.no h (fun _ _ => rfl) (fun _ _ _ => rfl) (fun _ _ => ⟨rfl, rfl⟩) rfl (fun _ _ => rfl) rfl h2 h7
theorem cP_r {X : Option Value → (Nat → Int32) → (Nat → Int32) → Prop} {ja jb jc : Int32} {r : Option Value} {t' v' pa' : Nat → Int32} (h : cP t v pa X ja jb jc r t' v' pa') : ∃ z : Int32, r = some (.int z) := by
  obtain ⟨a, t1, v1, bf, -, -, -, hE⟩ := h
  exact endP_r hE
theorem nar_c2 (z : Int32) : vp_nar .char (z.toUInt32 % 65536).toInt32 = (z.toUInt32 % 65536).toInt32 := by
  have h : (z.toUInt32 % 65536).toInt32 = nI (z.toBitVec.toNat % 65536) := pk_char z
  rw [h]
  unfold vp_nar
  rw [(pk_charN (Nat.mod_lt _ (by decide))).1]
end LR
theorem law_ix {L i : Nat} (hL : L ≤ 2560) (hi : i ≤ 2560) (h : ¬ nI L - 5 < nI i) : i + 5 ≤ L := by
  rcases Nat.lt_or_ge L 5 with h5 | h5
  · exfalso
    refine h ?_
    have h0 : (0 : Int32) ≤ nI i := nI_pos' (by omega)
    have h1 : nI L - 5 < 0 := by
      have : L = 0 ∨ L = 1 ∨ L = 2 ∨ L = 3 ∨ L = 4 := by omega
      rcases this with rfl | rfl | rfl | rfl | rfl <;> decide
    exact Int32.lt_of_lt_of_le h1 h0
  · obtain ⟨j, rfl⟩ : ∃ j, L = j + 5 := ⟨L - 5, by omega⟩
    have e : nI (j + 5) - 5 = nI j := by
      rw [← nI_add j 5]
      exact Int32.add_sub_cancel _ _
    rw [e] at h
    have h2 : ¬ j < i := fun z => h ((nI_ltI (by omega) (by omega)).mpr z)
    omega

theorem LA.more {g : xg_T} {w : xw_T} {sz n B : Nat} (h : LA g w sz n B) : LA g w sz n (B + 1) := by
  obtain ⟨⟨x, la, t, tt, vb, sg, LN, LF, tm, v, bf, sv, pa, lb, td, sm, c0, hc0, h1⟩, h2⟩ := h
  exact ⟨⟨x, la, t, tt, vb, sg, LN, LF, tm, v, bf, sv, pa, lb, td, sm, c0, Nat.le_succ_of_le hc0, h1⟩, h2⟩
/-! the reads leave all as it is -/
section RDS
variable {g : xg_T} {x x' : Nat → Nat → Int32} {la la' : Nat → Nat → Nat} {t t' v tm : Nat → Int32} {r rm : Option Value} {E : String} {z : Int32} {n : Nat} {ln : Nat → Nat} {lf : Nat → Nat → Int32} {a b : Int32}
theorem st_leaves (h : L_X7_leaves g x la t a b r x' la' t') : x' = x ∧ la' = la ∧ t' = t := by
  obtain ⟨v1, -, -, -, h⟩ := h
  exact h
theorem sx_leaves (h : E_X7_leaves g x la t a b E x' la' t') : x' = x ∧ la' = la ∧ t' = t := by
  obtain ⟨-, -, h⟩ := h
  exact h
theorem st_height (h : L_X7_height g x la t a r x' la' t') : x' = x ∧ la' = la ∧ t' = t := by
  obtain ⟨v1, -, -, -, h⟩ := h
  exact h
theorem sx_height (h : E_X7_height g x la t a E x' la' t') : x' = x ∧ la' = la ∧ t' = t := by
  obtain ⟨-, -, h⟩ := h
  exact h
theorem st_cargo (h : L_X7_cargo g x la t r x' la' t') : x' = x ∧ la' = la ∧ t' = t := by
  obtain ⟨v1, -, -, h⟩ := h
  exact h
theorem rd_height_y (hs : Int32) (hA : hAl (x 0) ln lf v) (_ : hok (x 0)) (hQ : Q_X8_height n tm v hs rm z) (hL : L_X7_height g x la t hs r x' la' t') : r = rm ∧ z = 0 := by
  obtain ⟨v1, hp, hv, rfl, -⟩ := hL
  rcases hQ with ⟨-, q1, q2⟩ | ⟨q, -⟩
  · refine ⟨?_, q1⟩
    rw [q2, hv, tide_hgt, hA.1.at (by omega)]
  · exact absurd hp q
theorem rd_height_n (hs : Int32) (_ : hAl (x 0) ln lf v) (_ : hok (x 0)) (hQ : Q_X8_height n tm v hs rm z) (hE : E_X7_height g x la t hs E x' la' t') : z = kc [("java/lang/IllegalArgumentException", 1)] E := by
  obtain ⟨rfl, hp, -⟩ := hE
  rcases hQ with ⟨q, -⟩ | ⟨-, q1, -⟩
  · exact absurd q hp
  · exact q1.trans (by decide +kernel)
theorem kc_height {hs : Int32} (hE : E_X7_height g x la t hs E x' la' t') : ¬ kc [("java/lang/IllegalArgumentException", 1)] E = 0 := by
  obtain ⟨rfl, -⟩ := hE
  decide +kernel
theorem rd_leaves_y (ga ki : Int32) (hA : hAl (x 0) ln lf v) (_ : hok (x 0)) (hQ : Q_X8_leaves n tm v ga ki rm z) (hL : L_X7_leaves g x la t ga ki r x' la' t') : r = rm ∧ z = 0 := by
  obtain ⟨v1, hp, hv, rfl, -⟩ := hL
  rcases hQ with ⟨c, d, rfl, rfl, hc, hd, q1, q2⟩ | ⟨q, -⟩
  · refine ⟨?_, q1⟩
    rw [q2, hv, sGet_n hc hd, hA.1.at (by omega)]
  · exact absurd hp (isLeaf_no q)
theorem rd_leaves_n (ga ki : Int32) (_ : hAl (x 0) ln lf v) (_ : hok (x 0)) (hQ : Q_X8_leaves n tm v ga ki rm z) (hE : E_X7_leaves g x la t ga ki E x' la' t') : z = kc [("java/lang/IndexOutOfBoundsException", 1)] E := by
  obtain ⟨rfl, hp, -⟩ := hE
  rcases hQ with ⟨c, d, rfl, rfl, hc, hd, -⟩ | ⟨-, q1, -⟩
  · exact absurd (isLeafB_n hc hd) (isLeaf_no hp)
  · exact q1.trans (by decide +kernel)
theorem kc_leaves {ga ki : Int32} (hE : E_X7_leaves g x la t ga ki E x' la' t') : ¬ kc [("java/lang/IndexOutOfBoundsException", 1)] E = 0 := by
  obtain ⟨rfl, -⟩ := hE
  decide +kernel
end RDS

section KCS
variable {g : xg_T} {x x1 : Nat → Nat → Int32} {la la1 : Nat → Nat → Nat} {t t1 : Nat → Int32} {a1 a2 a3 a4 : Int32} {E : String} {ln : Nat → Nat} {lf : Nat → Nat → Int32}
theorem kc_bring (h : E_X7_bring g x la t a1 a2 a3 E x1 la1 t1) : ¬ kc [("java/lang/IndexOutOfBoundsException", 1), ("java/lang/IllegalArgumentException", 2), ("java/lang/UnsupportedOperationException", 3)] E = 0 := by
  rcases ex_bring h with rfl | rfl | rfl <;> decide +kernel
theorem kc_buy (h : E_X7_buy g x la t a1 a2 E x1 la1 t1) : ¬ kc [("java/lang/IllegalArgumentException", 1)] E = 0 := by
  rcases ex_buy h with rfl <;> decide +kernel
theorem kc_empty (h : E_X7_empty g x la t a1 E x1 la1 t1) : ¬ kc [("java/lang/IndexOutOfBoundsException", 1), ("java/lang/UnsupportedOperationException", 2)] E = 0 := by
  rcases ex_empty h with rfl | rfl <;> decide +kernel
theorem kc_fill (h : E_X7_fill g x la t a1 a2 a3 a4 E x1 la1 t1) : ¬ kc [("java/lang/IndexOutOfBoundsException", 1), ("java/lang/IllegalArgumentException", 2), ("java/lang/UnsupportedOperationException", 3)] E = 0 := by
  rcases ex_fill h with rfl | rfl | rfl <;> decide +kernel
theorem kc_label (h : E_X7_label g x la t a1 E x1 la1 t1) : ¬ kc [("java/lang/IndexOutOfBoundsException", 1), ("java/lang/UnsupportedOperationException", 2)] E = 0 := by
  rcases ex_label h with rfl | rfl <;> decide +kernel
theorem kc_line (h : E_X7_line g x la t a1 E x1 la1 t1) : ¬ kc [("java/lang/IndexOutOfBoundsException", 1), ("java/lang/UnsupportedOperationException", 2)] E = 0 := by
  rcases ex_line h with rfl | rfl <;> decide +kernel
theorem kc_load (h : E_X7_load g x la t a1 E x1 la1 t1) : ¬ kc [("java/lang/IndexOutOfBoundsException", 1), ("java/lang/UnsupportedOperationException", 2)] E = 0 := by
  rcases ex_load h with rfl | rfl <;> decide +kernel
theorem kc_make (h : E_X7_make g x la t a1 E x1 la1 t1) : ¬ kc [("java/lang/IllegalArgumentException", 1), ("java/lang/UnsupportedOperationException", 2)] E = 0 := by
  rcases ex_make h with rfl | rfl <;> decide +kernel
theorem kc_pass (h : E_X7_pass g x la t a1 E x1 la1 t1) : ¬ kc [("java/lang/IllegalArgumentException", 1)] E = 0 := by
  rcases ex_pass h with rfl <;> decide +kernel
theorem kc_restore (h : E_X7_restore g x la t E x1 la1 t1) : ¬ kc [("java/lang/IllegalStateException", 1)] E = 0 := by
  rcases ex_restore h with rfl <;> decide +kernel
theorem kc_sail (h : E_X7_sail g x la t E x1 la1 t1) : ¬ kc [("java/lang/UnsupportedOperationException", 1)] E = 0 := by
  rcases ex_sail h with rfl <;> decide +kernel
theorem kc_screw (h : E_X7_screw g x la t a1 a2 E x1 la1 t1) : ¬ kc [("java/lang/IndexOutOfBoundsException", 1), ("java/lang/IllegalArgumentException", 2), ("java/lang/UnsupportedOperationException", 3)] E = 0 := by
  rcases ex_screw h with rfl | rfl | rfl <;> decide +kernel
theorem kc_setHumidity (h : E_X7_setHumidity g x la t a1 E x1 la1 t1) : ¬ kc [("java/lang/IllegalArgumentException", 1)] E = 0 := by
  rcases ex_setHumidity h with rfl <;> decide +kernel
theorem kc_toQuay (h : E_X7_toQuay g x la t a1 ln lf E x1 la1 t1) : ¬ kc [("java/lang/IndexOutOfBoundsException", 1), ("java/lang/UnsupportedOperationException", 2)] E = 0 := by
  rcases ex_toQuay h with rfl | rfl <;> decide +kernel
theorem kc_undo (h : E_X7_undo g x la t E x1 la1 t1) : ¬ kc [("java/lang/IllegalStateException", 1)] E = 0 := by
  rcases ex_undo h with rfl <;> decide +kernel
theorem kc_unscrew (h : E_X7_unscrew g x la t a1 E x1 la1 t1) : ¬ kc [("java/lang/IndexOutOfBoundsException", 1), ("java/lang/UnsupportedOperationException", 2)] E = 0 := by
  rcases ex_unscrew h with rfl | rfl <;> decide +kernel
end KCS

section LC
variable {p : Program} {l : Launch} {e : Env} {s : State} {m : MethodId} {args : Array Value} {below : List Frame} {meth : Method} {cD : Code} {Q : State → Prop} {g : xg_T} {rt : Option FieldType} {tb : List ExceptionTableEntry} {b L : Nat} {xs : Nat → Int32}
set_option maxHeartbeats 4000000 in
set_option maxRecDepth 100000 in
theorem law_c0 (hl : l.stackTraces = false) (C0 : xC p l s m args meth cD g cL_law 9 RL rt tb) (hX : va_X b L xs s s.heap) (hbl : b < s.heap.size) (hbA : ¬ xA g b) (hL : L ≤ 2560) (i n k q B : Nat) (hi : i + 5 ≤ L) (hB : B ≤ 512) (w : xw_T) (sz : Nat) (hI : LA g w sz n B) (hk : k + 256 ≤ 603072) (hq : q + 2500 ≤ 7202922) (kk : ∀ (w1 : xw_T) (sz1 n1 : Nat), LA g w1 sz1 n1 (B + 1) → xV p l e room_1 s m args below meth cD Q g 9 w1 sz1 (k + 256) (q + 2500) 1185 [(0, .ref b), (1, .ref (g.2 0)), (2, .ref (g.2 0 + 258)), (3, .ref (g.2 0 + 267)), (4, .ref (g.2 0 + 268)), (5, .int (nI i))] []) : xV p l e room_1 s m args below meth cD Q g 9 w sz k q 196 [(0, .ref b), (1, .ref (g.2 0)), (2, .ref (g.2 0 + 258)), (3, .ref (g.2 0 + 267)), (4, .ref (g.2 0 + 268)), (5, .int (nI i))] [] := by
  obtain ⟨⟨x, la, t, tt, vb, sg, LN, LF, tm, v, bf, sv, pa, lb, td, sm, c0, hc0, hC, hT, hM, hJ, hA⟩, hO, hD⟩ := hI
  refine x_aload_n 1 197 C0 dL_law_196 rfl rfl rfl ?_
  refine x_aload_n 0 198 C0 dL_law_197 rfl rfl rfl ?_
  refine x_iload 5 200 C0 dL_law_198 rfl rfl ?_
  refine x_iconst (v := 1) 201 C0 dL_law_200 rfl (by decide) ?_
  refine x_iadd 202 C0 dL_law_201 rfl ?_
  refine x_st (st1 := [.int (nI (i + 1)), .ref b, .ref (g.2 0)]) (congrArg (fun z => Value.int z :: _) (nI_add i 1)) ?_
  refine x_sld 203 C0 hX hbl hbA (vp_in_nI (n := i + 1) (by omega) (by omega)) dL_law_202 rfl ?_
  refine x_aload_n 0 204 C0 dL_law_203 rfl rfl rfl ?_
  refine x_iload 5 206 C0 dL_law_204 rfl rfl ?_
  refine x_iconst (v := 2) 207 C0 dL_law_206 rfl (by decide) ?_
  refine x_iadd 208 C0 dL_law_207 rfl ?_
  refine x_st (st1 := [.int (nI (i + 2)), .ref b, .int (xs (nI (i + 1)).toNatClampNeg), .ref (g.2 0)]) (congrArg (fun z => Value.int z :: _) (nI_add i 2)) ?_
  refine x_sld 209 C0 hX hbl hbA (vp_in_nI (n := i + 2) (by omega) (by omega)) dL_law_208 rfl ?_
  refine x_aload_n 0 210 C0 dL_law_209 rfl rfl rfl ?_
  refine x_iload 5 212 C0 dL_law_210 rfl rfl ?_
  refine x_iconst (v := 3) 213 C0 dL_law_212 rfl (by decide) ?_
  refine x_iadd 214 C0 dL_law_213 rfl ?_
  refine x_st (st1 := [.int (nI (i + 3)), .ref b, .int (xs (nI (i + 2)).toNatClampNeg), .int (xs (nI (i + 1)).toNatClampNeg), .ref (g.2 0)]) (congrArg (fun z => Value.int z :: _) (nI_add i 3)) ?_
  refine x_sld 215 C0 hX hbl hbA (vp_in_nI (n := i + 3) (by omega) (by omega)) dL_law_214 rfl ?_
  refine x_aload_n 3 216 C0 dL_law_215 rfl rfl rfl ?_
  refine x_callSH 219 C0 (e_L_bring l hl g w sz n x la t tt vb sg hC hO ((xs (nI (i + 1)).toNatClampNeg)) ((xs (nI (i + 2)).toNatClampNeg)) ((xs (nI (i + 3)).toNatClampNeg))) dL_law_216 rfl mC_L_bring mM_L_124 mS_L_bring mN_L yd_L_bring rfl rfl ⟨(Nat.le_of_ble_eq_true rfl), (Nat.le_of_ble_eq_true rfl)⟩ rfl rfl (Nat.le_of_ble_eq_true rfl) ⟨by show k + 8 ≤ 603072; omega, by show q + 64 ≤ 7202922; omega⟩ (fun _ _ _ z => False.elim z) (fun r1 w1 sz1 _ hP1 => ?_)
  obtain ⟨k1, x1, la1, t1, rfl, hz1, hF1, hC1, hd1⟩ := hP1
  have hO1 : wO g w1 := by
    rcases hd1 with ⟨-, v9, f9, -, h9, -⟩ | ⟨h9, -⟩
    · exact ⟨f9, h9⟩
    · exact h9
  have hM1 := hM.wf hF1 (Or.inl rfl) hC.zz
  have hT1 := hT.wf hF1 (Or.inl rfl) hz1
  have hD1 := hD.wf hF1 hC.zz
  refine x_st (st1 := [.int k1]) rfl ?_
  refine x_istore [(6, .int k1), (0, .ref b), (1, .ref (g.2 0)), (2, .ref (g.2 0 + 258)), (3, .ref (g.2 0 + 267)), (4, .ref (g.2 0 + 268)), (5, .int (nI i))] 221 C0 dL_law_219 rfl (by decide) rfl ?_
  refine x_aload_n 3 222 C0 dL_law_221 rfl rfl rfl ?_
  refine x_aload_n 1 223 C0 dL_law_222 rfl rfl rfl ?_
  refine x_iload 6 225 C0 dL_law_223 rfl rfl ?_
  refine x_iconst (v := 1) 226 C0 dL_law_225 rfl (by decide) ?_
  refine x_iadd 227 C0 dL_law_226 rfl ?_
  refine x_st (st1 := [.int (nI (i + 1)), .ref b, .ref (g.2 0 + 258)]) (congrArg (fun z => Value.int z :: _) (nI_add i 1)) ?_
  refine x_sld 228 C0 hX hbl hbA (vp_in_nI (n := i + 1) (by omega) (by omega)) dL_law_227 rfl ?_
  refine x_aload_n 1 229 C0 dL_law_228 rfl rfl rfl ?_
  refine x_iload 6 231 C0 dL_law_229 rfl rfl ?_
  refine x_iconst (v := 2) 232 C0 dL_law_231 rfl (by decide) ?_
  refine x_iadd 233 C0 dL_law_232 rfl ?_
  refine x_st (st1 := [.int (nI (i + 2)), .ref b, .int (xs (nI (i + 1)).toNatClampNeg), .ref (g.2 0 + 258)]) (congrArg (fun z => Value.int z :: _) (nI_add i 2)) ?_
  refine x_sld 234 C0 hX hbl hbA (vp_in_nI (n := i + 2) (by omega) (by omega)) dL_law_233 rfl ?_
  refine x_aload_n 1 235 C0 dL_law_234 rfl rfl rfl ?_
  refine x_iload 6 237 C0 dL_law_235 rfl rfl ?_
  refine x_iconst (v := 3) 238 C0 dL_law_237 rfl (by decide) ?_
  refine x_iadd 239 C0 dL_law_238 rfl ?_
  refine x_st (st1 := [.int (nI (i + 3)), .ref b, .int (xs (nI (i + 2)).toNatClampNeg), .int (xs (nI (i + 1)).toNatClampNeg), .ref (g.2 0 + 258)]) (congrArg (fun z => Value.int z :: _) (nI_add i 3)) ?_
  refine x_sld 240 C0 hX hbl hbA (vp_in_nI (n := i + 3) (by omega) (by omega)) dL_law_239 rfl ?_
  refine x_callV 243 C0 (k_X8_bring l hl g w1 sz1 n tm v bf sv pa lb sg td sm hM1 hJ ((xs (nI (i + 1)).toNatClampNeg)) ((xs (nI (i + 2)).toNatClampNeg)) ((xs (nI (i + 3)).toNatClampNeg))) dL_law_240 rfl mC_X8_bring mM_L_129 mI_X8_bring mV_X8_bring mN_X8 yd_X8_bring rfl rfl ⟨(Nat.le_of_ble_eq_true rfl), (Nat.le_of_ble_eq_true rfl)⟩ hM1.o rfl rfl rfl rfl (Nat.le_of_ble_eq_true rfl) ⟨by show k + 8 + 0 ≤ 603072; omega, by show q + 64 + 0 ≤ 7202922; omega⟩ (fun _ _ _ z => False.elim z) (fun r2 w2 sz2 _ hP2 => ?_)
  obtain ⟨rfl, tm2, v2, bf2, pa2, lb2, rfl, hJ2, h72, hQ2⟩ := hP2
  obtain ⟨z2, rfl⟩ := cP_r hQ2
  have hall2 : AI g (MW g w1 tm2 v2 bf2 sv pa2 lb2 sg td sm) sz1 n (B + 1) := by
    rcases hd1 with ⟨hk9, v9, f9, hL9, ho9, hf9⟩ | ⟨-, E9, hX9, hk9⟩
    · obtain ⟨hr9, hz9, c9, LN9, LF9, hc9, hT9, hA9⟩ := al_bring_y ((xs (nI (i + 1)).toNatClampNeg)) ((xs (nI (i + 2)).toNatClampNeg)) ((xs (nI (i + 3)).toNatClampNeg)) hA hT1 hC.k0 (by omega) h72 hQ2 hL9
      exact ⟨_, _, _, _, _, _, _, _, _, _, _, _, _, _, _, _, _, Nat.le_trans hc9 (by omega), hC1.mw, hT9.mw, MR_MW, hJ2, hA9⟩
    · obtain ⟨hz9, c9, LN9, LF9, hc9, hT9, hA9⟩ := al_bring_n ((xs (nI (i + 1)).toNatClampNeg)) ((xs (nI (i + 2)).toNatClampNeg)) ((xs (nI (i + 3)).toNatClampNeg)) hA hT1 hC.k0 (by omega) h72 hQ2 hX9
      exact ⟨_, _, _, _, _, _, _, _, _, _, _, _, _, _, _, _, _, Nat.le_trans hc9 (by omega), hC1.mw, hT9.mw, MR_MW, hJ2, hA9⟩
  refine x_st (st1 := [.int z2]) rfl ?_
  refine x_istore [(7, .int z2), (6, .int k1), (0, .ref b), (1, .ref (g.2 0)), (2, .ref (g.2 0 + 258)), (3, .ref (g.2 0 + 267)), (4, .ref (g.2 0 + 268)), (5, .int (nI i))] 245 C0 dL_law_243 rfl (by decide) rfl ?_
  refine x_goto 1185 C0 dL_law_245 (by decide) ?_
  exact x_widen (k + 256) (q + 2500) (by omega) (by omega) (x_lv [2, 3, 4, 5, 6, 7] rfl (kk _ _ _ ⟨hall2, hO1.mw, hD1.mw⟩))
set_option maxHeartbeats 4000000 in
set_option maxRecDepth 100000 in
theorem law_c1 (hl : l.stackTraces = false) (C0 : xC p l s m args meth cD g cL_law 9 RL rt tb) (hX : va_X b L xs s s.heap) (hbl : b < s.heap.size) (hbA : ¬ xA g b) (hL : L ≤ 2560) (i n k q B : Nat) (hi : i + 5 ≤ L) (hB : B ≤ 512) (w : xw_T) (sz : Nat) (hI : LA g w sz n B) (hk : k + 256 ≤ 603072) (hq : q + 2500 ≤ 7202922) (kk : ∀ (w1 : xw_T) (sz1 n1 : Nat), LA g w1 sz1 n1 (B + 1) → xV p l e room_1 s m args below meth cD Q g 9 w1 sz1 (k + 256) (q + 2500) 1185 [(0, .ref b), (1, .ref (g.2 0)), (2, .ref (g.2 0 + 258)), (3, .ref (g.2 0 + 267)), (4, .ref (g.2 0 + 268)), (5, .int (nI i))] []) : xV p l e room_1 s m args below meth cD Q g 9 w sz k q 248 [(0, .ref b), (1, .ref (g.2 0)), (2, .ref (g.2 0 + 258)), (3, .ref (g.2 0 + 267)), (4, .ref (g.2 0 + 268)), (5, .int (nI i))] [] := by
  obtain ⟨⟨x, la, t, tt, vb, sg, LN, LF, tm, v, bf, sv, pa, lb, td, sm, c0, hc0, hC, hT, hM, hJ, hA⟩, hO, hD⟩ := hI
  refine x_aload_n 1 249 C0 dL_law_248 rfl rfl rfl ?_
  refine x_aload_n 0 250 C0 dL_law_249 rfl rfl rfl ?_
  refine x_iload 5 252 C0 dL_law_250 rfl rfl ?_
  refine x_iconst (v := 1) 253 C0 dL_law_252 rfl (by decide) ?_
  refine x_iadd 254 C0 dL_law_253 rfl ?_
  refine x_st (st1 := [.int (nI (i + 1)), .ref b, .ref (g.2 0)]) (congrArg (fun z => Value.int z :: _) (nI_add i 1)) ?_
  refine x_sld 255 C0 hX hbl hbA (vp_in_nI (n := i + 1) (by omega) (by omega)) dL_law_254 rfl ?_
  refine x_aload_n 0 256 C0 dL_law_255 rfl rfl rfl ?_
  refine x_iload 5 258 C0 dL_law_256 rfl rfl ?_
  refine x_iconst (v := 2) 259 C0 dL_law_258 rfl (by decide) ?_
  refine x_iadd 260 C0 dL_law_259 rfl ?_
  refine x_st (st1 := [.int (nI (i + 2)), .ref b, .int (xs (nI (i + 1)).toNatClampNeg), .ref (g.2 0)]) (congrArg (fun z => Value.int z :: _) (nI_add i 2)) ?_
  refine x_sld 261 C0 hX hbl hbA (vp_in_nI (n := i + 2) (by omega) (by omega)) dL_law_260 rfl ?_
  refine x_aload_n 3 262 C0 dL_law_261 rfl rfl rfl ?_
  refine x_callSH 265 C0 (e_L_leaves l hl g w sz n x la t tt vb sg hC hO ((xs (nI (i + 1)).toNatClampNeg)) ((xs (nI (i + 2)).toNatClampNeg))) dL_law_262 rfl mC_L_leaves mM_L_130 mS_L_leaves mN_L yd_L_leaves rfl rfl ⟨(Nat.le_of_ble_eq_true rfl), (Nat.le_of_ble_eq_true rfl)⟩ rfl rfl (Nat.le_of_ble_eq_true rfl) ⟨by show k + 8 ≤ 603072; omega, by show q + 64 ≤ 7202922; omega⟩ (fun _ _ _ z => False.elim z) (fun r1 w1 sz1 _ hP1 => ?_)
  obtain ⟨k1, x1, la1, t1, rfl, hz1, hF1, hC1, hd1⟩ := hP1
  have hO1 : wO g w1 := by
    rcases hd1 with ⟨-, v9, f9, -, h9, -⟩ | ⟨h9, -⟩
    · exact ⟨f9, h9⟩
    · exact h9
  have hM1 := hM.wf hF1 (Or.inl rfl) hC.zz
  have hT1 := hT.wf hF1 (Or.inl rfl) hz1
  have hD1 := hD.wf hF1 hC.zz
  refine x_st (st1 := [.int k1]) rfl ?_
  refine x_istore [(6, .int k1), (0, .ref b), (1, .ref (g.2 0)), (2, .ref (g.2 0 + 258)), (3, .ref (g.2 0 + 267)), (4, .ref (g.2 0 + 268)), (5, .int (nI i))] 267 C0 dL_law_265 rfl (by decide) rfl ?_
  refine x_aload_n 3 268 C0 dL_law_267 rfl rfl rfl ?_
  refine x_aload_n 1 269 C0 dL_law_268 rfl rfl rfl ?_
  refine x_iload 6 271 C0 dL_law_269 rfl rfl ?_
  refine x_iconst (v := 1) 272 C0 dL_law_271 rfl (by decide) ?_
  refine x_iadd 273 C0 dL_law_272 rfl ?_
  refine x_st (st1 := [.int (nI (i + 1)), .ref b, .ref (g.2 0 + 258)]) (congrArg (fun z => Value.int z :: _) (nI_add i 1)) ?_
  refine x_sld 274 C0 hX hbl hbA (vp_in_nI (n := i + 1) (by omega) (by omega)) dL_law_273 rfl ?_
  refine x_aload_n 1 275 C0 dL_law_274 rfl rfl rfl ?_
  refine x_iload 6 277 C0 dL_law_275 rfl rfl ?_
  refine x_iconst (v := 2) 278 C0 dL_law_277 rfl (by decide) ?_
  refine x_iadd 279 C0 dL_law_278 rfl ?_
  refine x_st (st1 := [.int (nI (i + 2)), .ref b, .int (xs (nI (i + 1)).toNatClampNeg), .ref (g.2 0 + 258)]) (congrArg (fun z => Value.int z :: _) (nI_add i 2)) ?_
  refine x_sld 280 C0 hX hbl hbA (vp_in_nI (n := i + 2) (by omega) (by omega)) dL_law_279 rfl ?_
  refine x_callV 283 C0 (k_X8_leaves l hl g w1 sz1 n tm v bf sv pa lb sg td sm hM1 hJ ((xs (nI (i + 1)).toNatClampNeg)) ((xs (nI (i + 2)).toNatClampNeg))) dL_law_280 rfl mC_X8_leaves mM_L_133 mI_X8_leaves mV_X8_leaves mN_X8 yd_X8_leaves rfl rfl ⟨(Nat.le_of_ble_eq_true rfl), (Nat.le_of_ble_eq_true rfl)⟩ hM1.o rfl rfl rfl rfl (Nat.le_of_ble_eq_true rfl) ⟨by show k + 8 + 0 ≤ 603072; omega, by show q + 64 + 0 ≤ 7202922; omega⟩ (fun _ _ _ z => False.elim z) (fun r2 w2 sz2 _ hP2 => ?_)
  obtain ⟨rfl, tm2, lb2, rfl, hJ2, hL2, hQ2⟩ := hP2
  obtain ⟨⟨z2, rfl⟩, hQ2⟩ := hQ2
  have hall2 : AI g (MW g w1 tm2 v bf sv pa lb2 sg td sm) sz1 n (B + 1) := by
    rcases hd1 with ⟨hk9, v9, f9, hL9, ho9, hf9⟩ | ⟨-, E9, hX9, hk9⟩
    · obtain ⟨rfl, rfl, rfl⟩ := st_leaves hL9
      exact ⟨_, _, _, _, _, _, _, _, _, _, _, _, _, _, _, _, _, Nat.le_succ_of_le hc0, hC1.mw, hT1.mw, MR_MW, hJ2, (hA.tm (hL2 2 (by decide)) (hL2 7 (by decide)))⟩
    · obtain ⟨rfl, rfl, rfl⟩ := sx_leaves hX9
      exact ⟨_, _, _, _, _, _, _, _, _, _, _, _, _, _, _, _, _, Nat.le_succ_of_le hc0, hC1.mw, hT1.mw, MR_MW, hJ2, (hA.tm (hL2 2 (by decide)) (hL2 7 (by decide)))⟩
  refine x_st (st1 := [.int z2]) rfl ?_
  refine x_istore [(7, .int z2), (6, .int k1), (0, .ref b), (1, .ref (g.2 0)), (2, .ref (g.2 0 + 258)), (3, .ref (g.2 0 + 267)), (4, .ref (g.2 0 + 268)), (5, .int (nI i))] 285 C0 dL_law_283 rfl (by decide) rfl ?_
  refine x_goto 1185 C0 dL_law_285 (by decide) ?_
  exact x_widen (k + 256) (q + 2500) (by omega) (by omega) (x_lv [2, 3, 4, 5, 6, 7] rfl (kk _ _ _ ⟨hall2, hO1.mw, hD1.mw⟩))
set_option maxHeartbeats 4000000 in
set_option maxRecDepth 100000 in
theorem law_c2 (hl : l.stackTraces = false) (C0 : xC p l s m args meth cD g cL_law 9 RL rt tb) (hX : va_X b L xs s s.heap) (hbl : b < s.heap.size) (hbA : ¬ xA g b) (hL : L ≤ 2560) (i n k q B : Nat) (hi : i + 5 ≤ L) (hB : B ≤ 512) (w : xw_T) (sz : Nat) (hI : LA g w sz n B) (hk : k + 256 ≤ 603072) (hq : q + 2500 ≤ 7202922) (kk : ∀ (w1 : xw_T) (sz1 n1 : Nat), LA g w1 sz1 n1 (B + 1) → xV p l e room_1 s m args below meth cD Q g 9 w1 sz1 (k + 256) (q + 2500) 1185 [(0, .ref b), (1, .ref (g.2 0)), (2, .ref (g.2 0 + 258)), (3, .ref (g.2 0 + 267)), (4, .ref (g.2 0 + 268)), (5, .int (nI i))] []) : xV p l e room_1 s m args below meth cD Q g 9 w sz k q 288 [(0, .ref b), (1, .ref (g.2 0)), (2, .ref (g.2 0 + 258)), (3, .ref (g.2 0 + 267)), (4, .ref (g.2 0 + 268)), (5, .int (nI i))] [] := by
  obtain ⟨⟨x, la, t, tt, vb, sg, LN, LF, tm, v, bf, sv, pa, lb, td, sm, c0, hc0, hC, hT, hM, hJ, hA⟩, hO, hD⟩ := hI
  refine x_aload_n 1 289 C0 dL_law_288 rfl rfl rfl ?_
  refine x_callV 292 C0 (f_X7_bestGarden l hl g w sz n x la t tt vb sg hC) dL_law_289 rfl mC_X7_bestGarden mM_L_134 mI_X7_bestGarden mV_X7_bestGarden mN_X7 yd_X7_bestGarden rfl rfl ⟨(Nat.le_of_ble_eq_true rfl), (Nat.le_of_ble_eq_true rfl)⟩ hC.1.1 rfl rfl rfl rfl (Nat.le_of_ble_eq_true rfl) ⟨by show k + 8 ≤ 603072; omega, by show q + 64 ≤ 7202922; omega⟩ (fun _ _ _ z => False.elim z) (fun r1 w1 sz1 _ hP1 => ?_)
  obtain ⟨⟨k1, rfl⟩, hC1, hF1, hz1⟩ := hP1
  have hM1 := hM.wf (hF1.wf (a := 267)) (Or.inl rfl) hC.zz
  have hT1 := hT.wf (hF1.wf (a := 267)) (Or.inl rfl) hz1
  have hO1 := hO.xf hF1 hC.zz
  have hD1 := hD.wf hF1.wf hC.zz
  refine x_st (st1 := [.int k1]) rfl ?_
  refine x_pop 293 C0 dL_law_292 rfl rfl ?_
  refine x_aload_n 2 294 C0 dL_law_293 rfl rfl rfl ?_
  refine x_callV 297 C0 (k_X8_bestGarden l hl g w1 sz1 n tm v bf sv pa lb sg td sm hM1 hJ) dL_law_294 rfl mC_X8_bestGarden mM_L_137 mI_X8_bestGarden mV_X8_bestGarden mN_X8 yd_X8_bestGarden rfl rfl ⟨(Nat.le_of_ble_eq_true rfl), (Nat.le_of_ble_eq_true rfl)⟩ hM1.o rfl rfl rfl rfl (Nat.le_of_ble_eq_true rfl) ⟨by show k + 8 + 0 ≤ 603072; omega, by show q + 64 + 0 ≤ 7202922; omega⟩ (fun _ _ _ z => False.elim z) (fun r2 w2 sz2 _ hP2 => ?_)
  obtain ⟨rfl, tm2, lb2, rfl, hJ2, hL2, hQ2⟩ := hP2
  obtain ⟨z2, rfl⟩ := hQ2
  have hall2 : AI g (MW g w1 tm2 v bf sv pa lb2 sg td sm) sz1 n (B + 1) := ⟨_, _, _, _, _, _, _, _, _, _, _, _, _, _, _, _, _, Nat.le_succ_of_le hc0, hC1.mw, hT1.mw, MR_MW, hJ2, (hA.tm (hL2 2 (by decide)) (hL2 7 (by decide)))⟩
  refine x_st (st1 := [.int z2]) rfl ?_
  refine x_pop 298 C0 dL_law_297 rfl rfl ?_
  refine x_goto 1185 C0 dL_law_298 (by decide) ?_
  exact x_widen (k + 256) (q + 2500) (by omega) (by omega) (x_lv [0, 1, 2, 3, 4, 5] rfl (kk _ _ _ ⟨hall2, hO1.mw, hD1.mw⟩))
set_option maxHeartbeats 4000000 in
set_option maxRecDepth 100000 in
theorem law_c3 (hl : l.stackTraces = false) (C0 : xC p l s m args meth cD g cL_law 9 RL rt tb) (hX : va_X b L xs s s.heap) (hbl : b < s.heap.size) (hbA : ¬ xA g b) (hL : L ≤ 2560) (i n k q B : Nat) (hi : i + 5 ≤ L) (hB : B ≤ 512) (w : xw_T) (sz : Nat) (hI : LA g w sz n B) (hk : k + 256 ≤ 603072) (hq : q + 2500 ≤ 7202922) (kk : ∀ (w1 : xw_T) (sz1 n1 : Nat), LA g w1 sz1 n1 (B + 1) → xV p l e room_1 s m args below meth cD Q g 9 w1 sz1 (k + 256) (q + 2500) 1185 [(0, .ref b), (1, .ref (g.2 0)), (2, .ref (g.2 0 + 258)), (3, .ref (g.2 0 + 267)), (4, .ref (g.2 0 + 268)), (5, .int (nI i))] []) : xV p l e room_1 s m args below meth cD Q g 9 w sz k q 301 [(0, .ref b), (1, .ref (g.2 0)), (2, .ref (g.2 0 + 258)), (3, .ref (g.2 0 + 267)), (4, .ref (g.2 0 + 268)), (5, .int (nI i))] [] := by
  obtain ⟨⟨x, la, t, tt, vb, sg, LN, LF, tm, v, bf, sv, pa, lb, td, sm, c0, hc0, hC, hT, hM, hJ, hA⟩, hO, hD⟩ := hI
  refine x_aload_n 1 302 C0 dL_law_301 rfl rfl rfl ?_
  refine x_aload_n 0 303 C0 dL_law_302 rfl rfl rfl ?_
  refine x_iload 5 305 C0 dL_law_303 rfl rfl ?_
  refine x_iconst (v := 1) 306 C0 dL_law_305 rfl (by decide) ?_
  refine x_iadd 307 C0 dL_law_306 rfl ?_
  refine x_st (st1 := [.int (nI (i + 1)), .ref b, .ref (g.2 0)]) (congrArg (fun z => Value.int z :: _) (nI_add i 1)) ?_
  refine x_sld 308 C0 hX hbl hbA (vp_in_nI (n := i + 1) (by omega) (by omega)) dL_law_307 rfl ?_
  refine x_if_eq 315 311 C0 dL_law_308 rfl (by decide) (fun hb1 => ?_) (fun hb1 => ?_)
  · refine x_iconst (v := 0) 316 C0 dL_law_315 rfl (by decide) ?_
    refine x_aload_n 0 317 C0 dL_law_316 rfl rfl rfl ?_
    refine x_iload 5 319 C0 dL_law_317 rfl rfl ?_
    refine x_iconst (v := 2) 320 C0 dL_law_319 rfl (by decide) ?_
    refine x_iadd 321 C0 dL_law_320 rfl ?_
    refine x_st (st1 := [.int (nI (i + 2)), .ref b, .int 0, .ref (g.2 0)]) (congrArg (fun z => Value.int z :: _) (nI_add i 2)) ?_
    refine x_sld 322 C0 hX hbl hbA (vp_in_nI (n := i + 2) (by omega) (by omega)) dL_law_321 rfl ?_
    refine x_aload_n 3 323 C0 dL_law_322 rfl rfl rfl ?_
    refine x_callSH 326 C0 (e_L_buy l hl g w sz n x la t tt vb sg hC hO (0) ((xs (nI (i + 2)).toNatClampNeg))) dL_law_323 rfl mC_L_buy mM_L_138 mS_L_buy mN_L yd_L_buy rfl rfl ⟨(Nat.le_of_ble_eq_true rfl), (Nat.le_of_ble_eq_true rfl)⟩ rfl rfl (Nat.le_of_ble_eq_true rfl) ⟨by show k + 8 ≤ 603072; omega, by show q + 64 ≤ 7202922; omega⟩ (fun _ _ _ z => False.elim z) (fun r2 w2 sz2 _ hP2 => ?_)
    obtain ⟨k2, x2, la2, t2, rfl, hz2, hF2, hC2, hd2⟩ := hP2
    have hO2 : wO g w2 := by
      rcases hd2 with ⟨-, v9, f9, -, h9, -⟩ | ⟨h9, -⟩
      · exact ⟨f9, h9⟩
      · exact h9
    have hM2 := hM.wf hF2 (Or.inl rfl) hC.zz
    have hT2 := hT.wf hF2 (Or.inl rfl) hz2
    have hD2 := hD.wf hF2 hC.zz
    refine x_st (st1 := [.int k2]) rfl ?_
    refine x_istore [(6, .int k2), (0, .ref b), (1, .ref (g.2 0)), (2, .ref (g.2 0 + 258)), (3, .ref (g.2 0 + 267)), (4, .ref (g.2 0 + 268)), (5, .int (nI i))] 328 C0 dL_law_326 rfl (by decide) rfl ?_
    refine x_aload_n 3 329 C0 dL_law_328 rfl rfl rfl ?_
    refine x_aload_n 1 330 C0 dL_law_329 rfl rfl rfl ?_
    refine x_iload 6 332 C0 dL_law_330 rfl rfl ?_
    refine x_iconst (v := 1) 333 C0 dL_law_332 rfl (by decide) ?_
    refine x_iadd 334 C0 dL_law_333 rfl ?_
    refine x_st (st1 := [.int (nI (i + 1)), .ref b, .ref (g.2 0 + 258)]) (congrArg (fun z => Value.int z :: _) (nI_add i 1)) ?_
    refine x_sld 335 C0 hX hbl hbA (vp_in_nI (n := i + 1) (by omega) (by omega)) dL_law_334 rfl ?_
    refine x_if_eq 342 338 C0 dL_law_335 rfl (by decide) (fun _ => ?_) (fun z => absurd hb1 z)
    refine x_iconst (v := 0) 343 C0 dL_law_342 rfl (by decide) ?_
    refine x_aload_n 1 344 C0 dL_law_343 rfl rfl rfl ?_
    refine x_iload 6 346 C0 dL_law_344 rfl rfl ?_
    refine x_iconst (v := 2) 347 C0 dL_law_346 rfl (by decide) ?_
    refine x_iadd 348 C0 dL_law_347 rfl ?_
    refine x_st (st1 := [.int (nI (i + 2)), .ref b, .int 0, .ref (g.2 0 + 258)]) (congrArg (fun z => Value.int z :: _) (nI_add i 2)) ?_
    refine x_sld 349 C0 hX hbl hbA (vp_in_nI (n := i + 2) (by omega) (by omega)) dL_law_348 rfl ?_
    refine x_callV 352 C0 (k_X8_buy l hl g w2 sz2 n tm v bf sv pa lb sg td sm hM2 hJ (0) ((xs (nI (i + 2)).toNatClampNeg))) dL_law_349 rfl mC_X8_buy mM_L_141 mI_X8_buy mV_X8_buy mN_X8 yd_X8_buy rfl rfl ⟨(Nat.le_of_ble_eq_true rfl), (Nat.le_of_ble_eq_true rfl)⟩ hM2.o rfl rfl rfl rfl (Nat.le_of_ble_eq_true rfl) ⟨by show k + 8 + 0 ≤ 603072; omega, by show q + 64 + 0 ≤ 7202922; omega⟩ (fun _ _ _ z => False.elim z) (fun r3 w3 sz3 _ hP3 => ?_)
    obtain ⟨rfl, tm3, v3, bf3, pa3, lb3, rfl, hJ3, h73, hQ3⟩ := hP3
    obtain ⟨z3, rfl⟩ : ∃ z : Int32, r3 = some (.int z) := hQ3.elim (fun z => cP_r z.2) (fun z => cP_r z.2)
    have hall3 : AI g (MW g w2 tm3 v3 bf3 sv pa3 lb3 sg td sm) sz2 n (B + 1) := by
      rcases hd2 with ⟨hk9, v9, f9, hL9, ho9, hf9⟩ | ⟨-, E9, hX9, hk9⟩
      · obtain ⟨hr9, hz9, c9, LN9, LF9, hc9, hT9, hA9⟩ := al_buy_y (0) ((xs (nI (i + 2)).toNatClampNeg)) hA hT2 (by omega) h73 hQ3 hL9
        exact ⟨_, _, _, _, _, _, _, _, _, _, _, _, _, _, _, _, _, Nat.le_trans hc9 (by omega), hC2.mw, hT9.mw, MR_MW, hJ3, hA9⟩
      · obtain ⟨hz9, c9, LN9, LF9, hc9, hT9, hA9⟩ := al_buy_n (0) ((xs (nI (i + 2)).toNatClampNeg)) hA hT2 h73 hQ3 hX9
        exact ⟨_, _, _, _, _, _, _, _, _, _, _, _, _, _, _, _, _, Nat.le_trans hc9 (by omega), hC2.mw, hT9.mw, MR_MW, hJ3, hA9⟩
    refine x_st (st1 := [.int z3]) rfl ?_
    refine x_istore [(7, .int z3), (6, .int k2), (0, .ref b), (1, .ref (g.2 0)), (2, .ref (g.2 0 + 258)), (3, .ref (g.2 0 + 267)), (4, .ref (g.2 0 + 268)), (5, .int (nI i))] 354 C0 dL_law_352 rfl (by decide) rfl ?_
    refine x_goto 1185 C0 dL_law_354 (by decide) ?_
    exact x_widen (k + 256) (q + 2500) (by omega) (by omega) (x_lv [2, 3, 4, 5, 6, 7] rfl (kk _ _ _ ⟨hall3, hO2.mw, hD2.mw⟩))
  · refine x_iconst (v := 1) 312 C0 dL_law_311 rfl (by decide) ?_
    refine x_goto 316 C0 dL_law_312 (by decide) ?_
    refine x_aload_n 0 317 C0 dL_law_316 rfl rfl rfl ?_
    refine x_iload 5 319 C0 dL_law_317 rfl rfl ?_
    refine x_iconst (v := 2) 320 C0 dL_law_319 rfl (by decide) ?_
    refine x_iadd 321 C0 dL_law_320 rfl ?_
    refine x_st (st1 := [.int (nI (i + 2)), .ref b, .int 1, .ref (g.2 0)]) (congrArg (fun z => Value.int z :: _) (nI_add i 2)) ?_
    refine x_sld 322 C0 hX hbl hbA (vp_in_nI (n := i + 2) (by omega) (by omega)) dL_law_321 rfl ?_
    refine x_aload_n 3 323 C0 dL_law_322 rfl rfl rfl ?_
    refine x_callSH 326 C0 (e_L_buy l hl g w sz n x la t tt vb sg hC hO (1) ((xs (nI (i + 2)).toNatClampNeg))) dL_law_323 rfl mC_L_buy mM_L_138 mS_L_buy mN_L yd_L_buy rfl rfl ⟨(Nat.le_of_ble_eq_true rfl), (Nat.le_of_ble_eq_true rfl)⟩ rfl rfl (Nat.le_of_ble_eq_true rfl) ⟨by show k + 8 ≤ 603072; omega, by show q + 64 ≤ 7202922; omega⟩ (fun _ _ _ z => False.elim z) (fun r4 w4 sz4 _ hP4 => ?_)
    obtain ⟨k4, x4, la4, t4, rfl, hz4, hF4, hC4, hd4⟩ := hP4
    have hO4 : wO g w4 := by
      rcases hd4 with ⟨-, v9, f9, -, h9, -⟩ | ⟨h9, -⟩
      · exact ⟨f9, h9⟩
      · exact h9
    have hM4 := hM.wf hF4 (Or.inl rfl) hC.zz
    have hT4 := hT.wf hF4 (Or.inl rfl) hz4
    have hD4 := hD.wf hF4 hC.zz
    refine x_st (st1 := [.int k4]) rfl ?_
    refine x_istore [(6, .int k4), (0, .ref b), (1, .ref (g.2 0)), (2, .ref (g.2 0 + 258)), (3, .ref (g.2 0 + 267)), (4, .ref (g.2 0 + 268)), (5, .int (nI i))] 328 C0 dL_law_326 rfl (by decide) rfl ?_
    refine x_aload_n 3 329 C0 dL_law_328 rfl rfl rfl ?_
    refine x_aload_n 1 330 C0 dL_law_329 rfl rfl rfl ?_
    refine x_iload 6 332 C0 dL_law_330 rfl rfl ?_
    refine x_iconst (v := 1) 333 C0 dL_law_332 rfl (by decide) ?_
    refine x_iadd 334 C0 dL_law_333 rfl ?_
    refine x_st (st1 := [.int (nI (i + 1)), .ref b, .ref (g.2 0 + 258)]) (congrArg (fun z => Value.int z :: _) (nI_add i 1)) ?_
    refine x_sld 335 C0 hX hbl hbA (vp_in_nI (n := i + 1) (by omega) (by omega)) dL_law_334 rfl ?_
    refine x_if_eq 342 338 C0 dL_law_335 rfl (by decide) (fun z => absurd z hb1) (fun _ => ?_)
    refine x_iconst (v := 1) 339 C0 dL_law_338 rfl (by decide) ?_
    refine x_goto 343 C0 dL_law_339 (by decide) ?_
    refine x_aload_n 1 344 C0 dL_law_343 rfl rfl rfl ?_
    refine x_iload 6 346 C0 dL_law_344 rfl rfl ?_
    refine x_iconst (v := 2) 347 C0 dL_law_346 rfl (by decide) ?_
    refine x_iadd 348 C0 dL_law_347 rfl ?_
    refine x_st (st1 := [.int (nI (i + 2)), .ref b, .int 1, .ref (g.2 0 + 258)]) (congrArg (fun z => Value.int z :: _) (nI_add i 2)) ?_
    refine x_sld 349 C0 hX hbl hbA (vp_in_nI (n := i + 2) (by omega) (by omega)) dL_law_348 rfl ?_
    refine x_callV 352 C0 (k_X8_buy l hl g w4 sz4 n tm v bf sv pa lb sg td sm hM4 hJ (1) ((xs (nI (i + 2)).toNatClampNeg))) dL_law_349 rfl mC_X8_buy mM_L_141 mI_X8_buy mV_X8_buy mN_X8 yd_X8_buy rfl rfl ⟨(Nat.le_of_ble_eq_true rfl), (Nat.le_of_ble_eq_true rfl)⟩ hM4.o rfl rfl rfl rfl (Nat.le_of_ble_eq_true rfl) ⟨by show k + 8 + 0 ≤ 603072; omega, by show q + 64 + 0 ≤ 7202922; omega⟩ (fun _ _ _ z => False.elim z) (fun r5 w5 sz5 _ hP5 => ?_)
    obtain ⟨rfl, tm5, v5, bf5, pa5, lb5, rfl, hJ5, h75, hQ5⟩ := hP5
    obtain ⟨z5, rfl⟩ : ∃ z : Int32, r5 = some (.int z) := hQ5.elim (fun z => cP_r z.2) (fun z => cP_r z.2)
    have hall5 : AI g (MW g w4 tm5 v5 bf5 sv pa5 lb5 sg td sm) sz4 n (B + 1) := by
      rcases hd4 with ⟨hk9, v9, f9, hL9, ho9, hf9⟩ | ⟨-, E9, hX9, hk9⟩
      · obtain ⟨hr9, hz9, c9, LN9, LF9, hc9, hT9, hA9⟩ := al_buy_y (1) ((xs (nI (i + 2)).toNatClampNeg)) hA hT4 (by omega) h75 hQ5 hL9
        exact ⟨_, _, _, _, _, _, _, _, _, _, _, _, _, _, _, _, _, Nat.le_trans hc9 (by omega), hC4.mw, hT9.mw, MR_MW, hJ5, hA9⟩
      · obtain ⟨hz9, c9, LN9, LF9, hc9, hT9, hA9⟩ := al_buy_n (1) ((xs (nI (i + 2)).toNatClampNeg)) hA hT4 h75 hQ5 hX9
        exact ⟨_, _, _, _, _, _, _, _, _, _, _, _, _, _, _, _, _, Nat.le_trans hc9 (by omega), hC4.mw, hT9.mw, MR_MW, hJ5, hA9⟩
    refine x_st (st1 := [.int z5]) rfl ?_
    refine x_istore [(7, .int z5), (6, .int k4), (0, .ref b), (1, .ref (g.2 0)), (2, .ref (g.2 0 + 258)), (3, .ref (g.2 0 + 267)), (4, .ref (g.2 0 + 268)), (5, .int (nI i))] 354 C0 dL_law_352 rfl (by decide) rfl ?_
    refine x_goto 1185 C0 dL_law_354 (by decide) ?_
    exact x_widen (k + 256) (q + 2500) (by omega) (by omega) (x_lv [2, 3, 4, 5, 6, 7] rfl (kk _ _ _ ⟨hall5, hO4.mw, hD4.mw⟩))
set_option maxHeartbeats 4000000 in
set_option maxRecDepth 100000 in
theorem law_c4 (hl : l.stackTraces = false) (C0 : xC p l s m args meth cD g cL_law 9 RL rt tb) (hX : va_X b L xs s s.heap) (hbl : b < s.heap.size) (hbA : ¬ xA g b) (hL : L ≤ 2560) (i n k q B : Nat) (hi : i + 5 ≤ L) (hB : B ≤ 512) (w : xw_T) (sz : Nat) (hI : LA g w sz n B) (hk : k + 256 ≤ 603072) (hq : q + 2500 ≤ 7202922) (kk : ∀ (w1 : xw_T) (sz1 n1 : Nat), LA g w1 sz1 n1 (B + 1) → xV p l e room_1 s m args below meth cD Q g 9 w1 sz1 (k + 256) (q + 2500) 1185 [(0, .ref b), (1, .ref (g.2 0)), (2, .ref (g.2 0 + 258)), (3, .ref (g.2 0 + 267)), (4, .ref (g.2 0 + 268)), (5, .int (nI i))] []) : xV p l e room_1 s m args below meth cD Q g 9 w sz k q 357 [(0, .ref b), (1, .ref (g.2 0)), (2, .ref (g.2 0 + 258)), (3, .ref (g.2 0 + 267)), (4, .ref (g.2 0 + 268)), (5, .int (nI i))] [] := by
  obtain ⟨⟨x, la, t, tt, vb, sg, LN, LF, tm, v, bf, sv, pa, lb, td, sm, c0, hc0, hC, hT, hM, hJ, hA⟩, hO, hD⟩ := hI
  refine x_aload_n 1 358 C0 dL_law_357 rfl rfl rfl ?_
  refine x_aload_n 0 359 C0 dL_law_358 rfl rfl rfl ?_
  refine x_iload 5 361 C0 dL_law_359 rfl rfl ?_
  refine x_iconst (v := 1) 362 C0 dL_law_361 rfl (by decide) ?_
  refine x_iadd 363 C0 dL_law_362 rfl ?_
  refine x_st (st1 := [.int (nI (i + 1)), .ref b, .ref (g.2 0)]) (congrArg (fun z => Value.int z :: _) (nI_add i 1)) ?_
  refine x_sld 364 C0 hX hbl hbA (vp_in_nI (n := i + 1) (by omega) (by omega)) dL_law_363 rfl ?_
  refine x_aload_n 3 365 C0 dL_law_364 rfl rfl rfl ?_
  refine x_callSH 368 C0 (e_L_make l hl g w sz n x la t tt vb sg hC hO ((xs (nI (i + 1)).toNatClampNeg))) dL_law_365 rfl mC_L_make mM_L_142 mS_L_make mN_L yd_L_make rfl rfl ⟨(Nat.le_of_ble_eq_true rfl), (Nat.le_of_ble_eq_true rfl)⟩ rfl rfl (Nat.le_of_ble_eq_true rfl) ⟨by show k + 8 ≤ 603072; omega, by show q + 64 ≤ 7202922; omega⟩ (fun _ _ _ z => False.elim z) (fun r1 w1 sz1 _ hP1 => ?_)
  obtain ⟨k1, x1, la1, t1, rfl, hz1, hF1, hC1, hd1⟩ := hP1
  have hO1 : wO g w1 := by
    rcases hd1 with ⟨-, v9, f9, -, h9, -⟩ | ⟨h9, -⟩
    · exact ⟨f9, h9⟩
    · exact h9
  have hM1 := hM.wf hF1 (Or.inl rfl) hC.zz
  have hT1 := hT.wf hF1 (Or.inl rfl) hz1
  have hD1 := hD.wf hF1 hC.zz
  refine x_st (st1 := [.int k1]) rfl ?_
  refine x_istore [(6, .int k1), (0, .ref b), (1, .ref (g.2 0)), (2, .ref (g.2 0 + 258)), (3, .ref (g.2 0 + 267)), (4, .ref (g.2 0 + 268)), (5, .int (nI i))] 370 C0 dL_law_368 rfl (by decide) rfl ?_
  refine x_aload_n 3 371 C0 dL_law_370 rfl rfl rfl ?_
  refine x_aload_n 1 372 C0 dL_law_371 rfl rfl rfl ?_
  refine x_iload 6 374 C0 dL_law_372 rfl rfl ?_
  refine x_iconst (v := 1) 375 C0 dL_law_374 rfl (by decide) ?_
  refine x_iadd 376 C0 dL_law_375 rfl ?_
  refine x_st (st1 := [.int (nI (i + 1)), .ref b, .ref (g.2 0 + 258)]) (congrArg (fun z => Value.int z :: _) (nI_add i 1)) ?_
  refine x_sld 377 C0 hX hbl hbA (vp_in_nI (n := i + 1) (by omega) (by omega)) dL_law_376 rfl ?_
  refine x_callV 380 C0 (k_X8_make l hl g w1 sz1 n tm v bf sv pa lb sg td sm hM1 hJ ((xs (nI (i + 1)).toNatClampNeg))) dL_law_377 rfl mC_X8_make mM_L_145 mI_X8_make mV_X8_make mN_X8 yd_X8_make rfl rfl ⟨(Nat.le_of_ble_eq_true rfl), (Nat.le_of_ble_eq_true rfl)⟩ hM1.o rfl rfl rfl rfl (Nat.le_of_ble_eq_true rfl) ⟨by show k + 8 + 0 ≤ 603072; omega, by show q + 64 + 0 ≤ 7202922; omega⟩ (fun _ _ _ z => False.elim z) (fun r2 w2 sz2 _ hP2 => ?_)
  obtain ⟨rfl, tm2, v2, bf2, pa2, lb2, rfl, hJ2, h72, hQ2⟩ := hP2
  obtain ⟨z2, rfl⟩ := cP_r hQ2
  have hall2 : AI g (MW g w1 tm2 v2 bf2 sv pa2 lb2 sg td sm) sz1 n (B + 1) := by
    rcases hd1 with ⟨hk9, v9, f9, hL9, ho9, hf9⟩ | ⟨-, E9, hX9, hk9⟩
    · obtain ⟨hr9, hz9, c9, LN9, LF9, hc9, hT9, hA9⟩ := al_make_y ((xs (nI (i + 1)).toNatClampNeg)) hA hT1 hC.k0 (by omega) h72 hQ2 hL9
      exact ⟨_, _, _, _, _, _, _, _, _, _, _, _, _, _, _, _, _, Nat.le_trans hc9 (by omega), hC1.mw, hT9.mw, MR_MW, hJ2, hA9⟩
    · obtain ⟨hz9, c9, LN9, LF9, hc9, hT9, hA9⟩ := al_make_n ((xs (nI (i + 1)).toNatClampNeg)) hA hT1 hC.k0 (by omega) h72 hQ2 hX9
      exact ⟨_, _, _, _, _, _, _, _, _, _, _, _, _, _, _, _, _, Nat.le_trans hc9 (by omega), hC1.mw, hT9.mw, MR_MW, hJ2, hA9⟩
  refine x_st (st1 := [.int z2]) rfl ?_
  refine x_istore [(7, .int z2), (6, .int k1), (0, .ref b), (1, .ref (g.2 0)), (2, .ref (g.2 0 + 258)), (3, .ref (g.2 0 + 267)), (4, .ref (g.2 0 + 268)), (5, .int (nI i))] 382 C0 dL_law_380 rfl (by decide) rfl ?_
  refine x_goto 1185 C0 dL_law_382 (by decide) ?_
  exact x_widen (k + 256) (q + 2500) (by omega) (by omega) (x_lv [2, 3, 4, 5, 6, 7] rfl (kk _ _ _ ⟨hall2, hO1.mw, hD1.mw⟩))
set_option maxHeartbeats 4000000 in
set_option maxRecDepth 100000 in
theorem law_c5 (hl : l.stackTraces = false) (C0 : xC p l s m args meth cD g cL_law 9 RL rt tb) (hX : va_X b L xs s s.heap) (hbl : b < s.heap.size) (hbA : ¬ xA g b) (hL : L ≤ 2560) (i n k q B : Nat) (hi : i + 5 ≤ L) (hB : B ≤ 512) (w : xw_T) (sz : Nat) (hI : LA g w sz n B) (hk : k + 256 ≤ 603072) (hq : q + 2500 ≤ 7202922) (kk : ∀ (w1 : xw_T) (sz1 n1 : Nat), LA g w1 sz1 n1 (B + 1) → xV p l e room_1 s m args below meth cD Q g 9 w1 sz1 (k + 256) (q + 2500) 1185 [(0, .ref b), (1, .ref (g.2 0)), (2, .ref (g.2 0 + 258)), (3, .ref (g.2 0 + 267)), (4, .ref (g.2 0 + 268)), (5, .int (nI i))] []) : xV p l e room_1 s m args below meth cD Q g 9 w sz k q 385 [(0, .ref b), (1, .ref (g.2 0)), (2, .ref (g.2 0 + 258)), (3, .ref (g.2 0 + 267)), (4, .ref (g.2 0 + 268)), (5, .int (nI i))] [] := by
  obtain ⟨⟨x, la, t, tt, vb, sg, LN, LF, tm, v, bf, sv, pa, lb, td, sm, c0, hc0, hC, hT, hM, hJ, hA⟩, hO, hD⟩ := hI
  refine x_aload_n 1 386 C0 dL_law_385 rfl rfl rfl ?_
  refine x_aload_n 0 387 C0 dL_law_386 rfl rfl rfl ?_
  refine x_iload 5 389 C0 dL_law_387 rfl rfl ?_
  refine x_iconst (v := 1) 390 C0 dL_law_389 rfl (by decide) ?_
  refine x_iadd 391 C0 dL_law_390 rfl ?_
  refine x_st (st1 := [.int (nI (i + 1)), .ref b, .ref (g.2 0)]) (congrArg (fun z => Value.int z :: _) (nI_add i 1)) ?_
  refine x_sld 392 C0 hX hbl hbA (vp_in_nI (n := i + 1) (by omega) (by omega)) dL_law_391 rfl ?_
  refine x_aload_n 3 393 C0 dL_law_392 rfl rfl rfl ?_
  refine x_callSH 396 C0 (e_L_line l hl g w sz n x la t tt vb sg hC hO ((xs (nI (i + 1)).toNatClampNeg))) dL_law_393 rfl mC_L_line mM_L_146 mS_L_line mN_L yd_L_line rfl rfl ⟨(Nat.le_of_ble_eq_true rfl), (Nat.le_of_ble_eq_true rfl)⟩ rfl rfl (Nat.le_of_ble_eq_true rfl) ⟨by show k + 8 ≤ 603072; omega, by show q + 64 ≤ 7202922; omega⟩ (fun _ _ _ z => False.elim z) (fun r1 w1 sz1 _ hP1 => ?_)
  obtain ⟨k1, x1, la1, t1, rfl, hz1, hF1, hC1, hd1⟩ := hP1
  have hO1 : wO g w1 := by
    rcases hd1 with ⟨-, v9, f9, -, h9, -⟩ | ⟨h9, -⟩
    · exact ⟨f9, h9⟩
    · exact h9
  have hM1 := hM.wf hF1 (Or.inl rfl) hC.zz
  have hT1 := hT.wf hF1 (Or.inl rfl) hz1
  have hD1 := hD.wf hF1 hC.zz
  refine x_st (st1 := [.int k1]) rfl ?_
  refine x_istore [(6, .int k1), (0, .ref b), (1, .ref (g.2 0)), (2, .ref (g.2 0 + 258)), (3, .ref (g.2 0 + 267)), (4, .ref (g.2 0 + 268)), (5, .int (nI i))] 398 C0 dL_law_396 rfl (by decide) rfl ?_
  refine x_aload_n 3 399 C0 dL_law_398 rfl rfl rfl ?_
  refine x_aload_n 1 400 C0 dL_law_399 rfl rfl rfl ?_
  refine x_iload 6 402 C0 dL_law_400 rfl rfl ?_
  refine x_iconst (v := 1) 403 C0 dL_law_402 rfl (by decide) ?_
  refine x_iadd 404 C0 dL_law_403 rfl ?_
  refine x_st (st1 := [.int (nI (i + 1)), .ref b, .ref (g.2 0 + 258)]) (congrArg (fun z => Value.int z :: _) (nI_add i 1)) ?_
  refine x_sld 405 C0 hX hbl hbA (vp_in_nI (n := i + 1) (by omega) (by omega)) dL_law_404 rfl ?_
  refine x_callV 408 C0 (k_X8_line l hl g w1 sz1 n tm v bf sv pa lb sg td sm hM1 hJ ((xs (nI (i + 1)).toNatClampNeg))) dL_law_405 rfl mC_X8_line mM_L_148 mI_X8_line mV_X8_line mN_X8 yd_X8_line rfl rfl ⟨(Nat.le_of_ble_eq_true rfl), (Nat.le_of_ble_eq_true rfl)⟩ hM1.o rfl rfl rfl rfl (Nat.le_of_ble_eq_true rfl) ⟨by show k + 8 + 0 ≤ 603072; omega, by show q + 64 + 0 ≤ 7202922; omega⟩ (fun _ _ _ z => False.elim z) (fun r2 w2 sz2 _ hP2 => ?_)
  obtain ⟨rfl, tm2, v2, bf2, pa2, lb2, rfl, hJ2, h72, hQ2⟩ := hP2
  obtain ⟨z2, rfl⟩ := cP_r hQ2
  have hall2 : AI g (MW g w1 tm2 v2 bf2 sv pa2 lb2 sg td sm) sz1 n (B + 1) := by
    rcases hd1 with ⟨hk9, v9, f9, hL9, ho9, hf9⟩ | ⟨-, E9, hX9, hk9⟩
    · obtain ⟨hr9, hz9, c9, LN9, LF9, hc9, hT9, hA9⟩ := al_line_y ((xs (nI (i + 1)).toNatClampNeg)) hA hT1 hC.k0 (by omega) h72 hQ2 hL9
      exact ⟨_, _, _, _, _, _, _, _, _, _, _, _, _, _, _, _, _, Nat.le_trans hc9 (by omega), hC1.mw, hT9.mw, MR_MW, hJ2, hA9⟩
    · obtain ⟨hz9, c9, LN9, LF9, hc9, hT9, hA9⟩ := al_line_n ((xs (nI (i + 1)).toNatClampNeg)) hA hT1 hC.k0 (by omega) h72 hQ2 hX9
      exact ⟨_, _, _, _, _, _, _, _, _, _, _, _, _, _, _, _, _, Nat.le_trans hc9 (by omega), hC1.mw, hT9.mw, MR_MW, hJ2, hA9⟩
  refine x_st (st1 := [.int z2]) rfl ?_
  refine x_istore [(7, .int z2), (6, .int k1), (0, .ref b), (1, .ref (g.2 0)), (2, .ref (g.2 0 + 258)), (3, .ref (g.2 0 + 267)), (4, .ref (g.2 0 + 268)), (5, .int (nI i))] 410 C0 dL_law_408 rfl (by decide) rfl ?_
  refine x_goto 1185 C0 dL_law_410 (by decide) ?_
  exact x_widen (k + 256) (q + 2500) (by omega) (by omega) (x_lv [2, 3, 4, 5, 6, 7] rfl (kk _ _ _ ⟨hall2, hO1.mw, hD1.mw⟩))
set_option maxHeartbeats 4000000 in
set_option maxRecDepth 100000 in
theorem law_c6 (hl : l.stackTraces = false) (C0 : xC p l s m args meth cD g cL_law 9 RL rt tb) (hX : va_X b L xs s s.heap) (hbl : b < s.heap.size) (hbA : ¬ xA g b) (hL : L ≤ 2560) (i n k q B : Nat) (hi : i + 5 ≤ L) (hB : B ≤ 512) (w : xw_T) (sz : Nat) (hI : LA g w sz n B) (hk : k + 256 ≤ 603072) (hq : q + 2500 ≤ 7202922) (kk : ∀ (w1 : xw_T) (sz1 n1 : Nat), LA g w1 sz1 n1 (B + 1) → xV p l e room_1 s m args below meth cD Q g 9 w1 sz1 (k + 256) (q + 2500) 1185 [(0, .ref b), (1, .ref (g.2 0)), (2, .ref (g.2 0 + 258)), (3, .ref (g.2 0 + 267)), (4, .ref (g.2 0 + 268)), (5, .int (nI i))] []) : xV p l e room_1 s m args below meth cD Q g 9 w sz k q 413 [(0, .ref b), (1, .ref (g.2 0)), (2, .ref (g.2 0 + 258)), (3, .ref (g.2 0 + 267)), (4, .ref (g.2 0 + 268)), (5, .int (nI i))] [] := by
  obtain ⟨⟨x, la, t, tt, vb, sg, LN, LF, tm, v, bf, sv, pa, lb, td, sm, c0, hc0, hC, hT, hM, hJ, hA⟩, hO, hD⟩ := hI
  refine x_aload_n 1 414 C0 dL_law_413 rfl rfl rfl ?_
  refine x_aload_n 0 415 C0 dL_law_414 rfl rfl rfl ?_
  refine x_iload 5 417 C0 dL_law_415 rfl rfl ?_
  refine x_iconst (v := 1) 418 C0 dL_law_417 rfl (by decide) ?_
  refine x_iadd 419 C0 dL_law_418 rfl ?_
  refine x_st (st1 := [.int (nI (i + 1)), .ref b, .ref (g.2 0)]) (congrArg (fun z => Value.int z :: _) (nI_add i 1)) ?_
  refine x_sld 420 C0 hX hbl hbA (vp_in_nI (n := i + 1) (by omega) (by omega)) dL_law_419 rfl ?_
  refine x_aload_n 0 421 C0 dL_law_420 rfl rfl rfl ?_
  refine x_iload 5 423 C0 dL_law_421 rfl rfl ?_
  refine x_iconst (v := 2) 424 C0 dL_law_423 rfl (by decide) ?_
  refine x_iadd 425 C0 dL_law_424 rfl ?_
  refine x_st (st1 := [.int (nI (i + 2)), .ref b, .int (xs (nI (i + 1)).toNatClampNeg), .ref (g.2 0)]) (congrArg (fun z => Value.int z :: _) (nI_add i 2)) ?_
  refine x_sld 426 C0 hX hbl hbA (vp_in_nI (n := i + 2) (by omega) (by omega)) dL_law_425 rfl ?_
  refine x_aload_n 0 427 C0 dL_law_426 rfl rfl rfl ?_
  refine x_iload 5 429 C0 dL_law_427 rfl rfl ?_
  refine x_iconst (v := 3) 430 C0 dL_law_429 rfl (by decide) ?_
  refine x_iadd 431 C0 dL_law_430 rfl ?_
  refine x_st (st1 := [.int (nI (i + 3)), .ref b, .int (xs (nI (i + 2)).toNatClampNeg), .int (xs (nI (i + 1)).toNatClampNeg), .ref (g.2 0)]) (congrArg (fun z => Value.int z :: _) (nI_add i 3)) ?_
  refine x_sld 432 C0 hX hbl hbA (vp_in_nI (n := i + 3) (by omega) (by omega)) dL_law_431 rfl ?_
  refine x_aload_n 0 433 C0 dL_law_432 rfl rfl rfl ?_
  refine x_iload 5 435 C0 dL_law_433 rfl rfl ?_
  refine x_iconst (v := 4) 436 C0 dL_law_435 rfl (by decide) ?_
  refine x_iadd 437 C0 dL_law_436 rfl ?_
  refine x_st (st1 := [.int (nI (i + 4)), .ref b, .int (xs (nI (i + 3)).toNatClampNeg), .int (xs (nI (i + 2)).toNatClampNeg), .int (xs (nI (i + 1)).toNatClampNeg), .ref (g.2 0)]) (congrArg (fun z => Value.int z :: _) (nI_add i 4)) ?_
  refine x_sld 438 C0 hX hbl hbA (vp_in_nI (n := i + 4) (by omega) (by omega)) dL_law_437 rfl ?_
  refine x_aload_n 3 439 C0 dL_law_438 rfl rfl rfl ?_
  refine x_callSH 442 C0 (e_L_fill l hl g w sz n x la t tt vb sg hC hO ((xs (nI (i + 1)).toNatClampNeg)) ((xs (nI (i + 2)).toNatClampNeg)) ((xs (nI (i + 3)).toNatClampNeg)) ((xs (nI (i + 4)).toNatClampNeg))) dL_law_439 rfl mC_L_fill mM_L_149 mS_L_fill mN_L yd_L_fill rfl rfl ⟨(Nat.le_of_ble_eq_true rfl), (Nat.le_of_ble_eq_true rfl)⟩ rfl rfl (Nat.le_of_ble_eq_true rfl) ⟨by show k + 8 ≤ 603072; omega, by show q + 64 ≤ 7202922; omega⟩ (fun _ _ _ z => False.elim z) (fun r1 w1 sz1 _ hP1 => ?_)
  obtain ⟨k1, x1, la1, t1, rfl, hz1, hF1, hC1, hd1⟩ := hP1
  have hO1 : wO g w1 := by
    rcases hd1 with ⟨-, v9, f9, -, h9, -⟩ | ⟨h9, -⟩
    · exact ⟨f9, h9⟩
    · exact h9
  have hM1 := hM.wf hF1 (Or.inl rfl) hC.zz
  have hT1 := hT.wf hF1 (Or.inl rfl) hz1
  have hD1 := hD.wf hF1 hC.zz
  refine x_st (st1 := [.int k1]) rfl ?_
  refine x_istore [(6, .int k1), (0, .ref b), (1, .ref (g.2 0)), (2, .ref (g.2 0 + 258)), (3, .ref (g.2 0 + 267)), (4, .ref (g.2 0 + 268)), (5, .int (nI i))] 444 C0 dL_law_442 rfl (by decide) rfl ?_
  refine x_aload_n 3 445 C0 dL_law_444 rfl rfl rfl ?_
  refine x_aload_n 1 446 C0 dL_law_445 rfl rfl rfl ?_
  refine x_iload 6 448 C0 dL_law_446 rfl rfl ?_
  refine x_iconst (v := 1) 449 C0 dL_law_448 rfl (by decide) ?_
  refine x_iadd 450 C0 dL_law_449 rfl ?_
  refine x_st (st1 := [.int (nI (i + 1)), .ref b, .ref (g.2 0 + 258)]) (congrArg (fun z => Value.int z :: _) (nI_add i 1)) ?_
  refine x_sld 451 C0 hX hbl hbA (vp_in_nI (n := i + 1) (by omega) (by omega)) dL_law_450 rfl ?_
  refine x_aload_n 1 452 C0 dL_law_451 rfl rfl rfl ?_
  refine x_iload 6 454 C0 dL_law_452 rfl rfl ?_
  refine x_iconst (v := 2) 455 C0 dL_law_454 rfl (by decide) ?_
  refine x_iadd 456 C0 dL_law_455 rfl ?_
  refine x_st (st1 := [.int (nI (i + 2)), .ref b, .int (xs (nI (i + 1)).toNatClampNeg), .ref (g.2 0 + 258)]) (congrArg (fun z => Value.int z :: _) (nI_add i 2)) ?_
  refine x_sld 457 C0 hX hbl hbA (vp_in_nI (n := i + 2) (by omega) (by omega)) dL_law_456 rfl ?_
  refine x_aload_n 1 458 C0 dL_law_457 rfl rfl rfl ?_
  refine x_iload 6 460 C0 dL_law_458 rfl rfl ?_
  refine x_iconst (v := 3) 461 C0 dL_law_460 rfl (by decide) ?_
  refine x_iadd 462 C0 dL_law_461 rfl ?_
  refine x_st (st1 := [.int (nI (i + 3)), .ref b, .int (xs (nI (i + 2)).toNatClampNeg), .int (xs (nI (i + 1)).toNatClampNeg), .ref (g.2 0 + 258)]) (congrArg (fun z => Value.int z :: _) (nI_add i 3)) ?_
  refine x_sld 463 C0 hX hbl hbA (vp_in_nI (n := i + 3) (by omega) (by omega)) dL_law_462 rfl ?_
  refine x_aload_n 1 464 C0 dL_law_463 rfl rfl rfl ?_
  refine x_iload 6 466 C0 dL_law_464 rfl rfl ?_
  refine x_iconst (v := 4) 467 C0 dL_law_466 rfl (by decide) ?_
  refine x_iadd 468 C0 dL_law_467 rfl ?_
  refine x_st (st1 := [.int (nI (i + 4)), .ref b, .int (xs (nI (i + 3)).toNatClampNeg), .int (xs (nI (i + 2)).toNatClampNeg), .int (xs (nI (i + 1)).toNatClampNeg), .ref (g.2 0 + 258)]) (congrArg (fun z => Value.int z :: _) (nI_add i 4)) ?_
  refine x_sld 469 C0 hX hbl hbA (vp_in_nI (n := i + 4) (by omega) (by omega)) dL_law_468 rfl ?_
  refine x_callV 472 C0 (k_X8_fill l hl g w1 sz1 n tm v bf sv pa lb sg td sm hM1 hJ ((xs (nI (i + 1)).toNatClampNeg)) ((xs (nI (i + 2)).toNatClampNeg)) ((xs (nI (i + 3)).toNatClampNeg)) ((xs (nI (i + 4)).toNatClampNeg))) dL_law_469 rfl mC_X8_fill mM_L_152 mI_X8_fill mV_X8_fill mN_X8 yd_X8_fill rfl rfl ⟨(Nat.le_of_ble_eq_true rfl), (Nat.le_of_ble_eq_true rfl)⟩ hM1.o rfl rfl rfl rfl (Nat.le_of_ble_eq_true rfl) ⟨by show k + 8 + 0 ≤ 603072; omega, by show q + 64 + 0 ≤ 7202922; omega⟩ (fun _ _ _ z => False.elim z) (fun r2 w2 sz2 _ hP2 => ?_)
  obtain ⟨rfl, tm2, v2, bf2, pa2, lb2, rfl, hJ2, h72, hQ2⟩ := hP2
  obtain ⟨z2, rfl⟩ := cP_r hQ2
  have hall2 : AI g (MW g w1 tm2 v2 bf2 sv pa2 lb2 sg td sm) sz1 n (B + 1) := by
    rcases hd1 with ⟨hk9, v9, f9, hL9, ho9, hf9⟩ | ⟨-, E9, hX9, hk9⟩
    · obtain ⟨hz9, c9, LN9, LF9, hc9, hT9, hA9⟩ := al_fill_y ((xs (nI (i + 1)).toNatClampNeg)) ((xs (nI (i + 2)).toNatClampNeg)) ((xs (nI (i + 3)).toNatClampNeg)) ((xs (nI (i + 4)).toNatClampNeg)) hA hT1 hC.k0 (by omega) h72 hQ2 hL9
      exact ⟨_, _, _, _, _, _, _, _, _, _, _, _, _, _, _, _, _, Nat.le_trans hc9 (by omega), hC1.mw, hT9.mw, MR_MW, hJ2, hA9⟩
    · obtain ⟨hz9, c9, LN9, LF9, hc9, hT9, hA9⟩ := al_fill_n ((xs (nI (i + 1)).toNatClampNeg)) ((xs (nI (i + 2)).toNatClampNeg)) ((xs (nI (i + 3)).toNatClampNeg)) ((xs (nI (i + 4)).toNatClampNeg)) hA hT1 hC.k0 (by omega) h72 hQ2 hX9
      exact ⟨_, _, _, _, _, _, _, _, _, _, _, _, _, _, _, _, _, Nat.le_trans hc9 (by omega), hC1.mw, hT9.mw, MR_MW, hJ2, hA9⟩
  refine x_st (st1 := [.int z2]) rfl ?_
  refine x_istore [(7, .int z2), (6, .int k1), (0, .ref b), (1, .ref (g.2 0)), (2, .ref (g.2 0 + 258)), (3, .ref (g.2 0 + 267)), (4, .ref (g.2 0 + 268)), (5, .int (nI i))] 474 C0 dL_law_472 rfl (by decide) rfl ?_
  refine x_goto 1185 C0 dL_law_474 (by decide) ?_
  exact x_widen (k + 256) (q + 2500) (by omega) (by omega) (x_lv [2, 3, 4, 5, 6, 7] rfl (kk _ _ _ ⟨hall2, hO1.mw, hD1.mw⟩))
set_option maxHeartbeats 4000000 in
set_option maxRecDepth 100000 in
theorem law_c7 (hl : l.stackTraces = false) (C0 : xC p l s m args meth cD g cL_law 9 RL rt tb) (hX : va_X b L xs s s.heap) (hbl : b < s.heap.size) (hbA : ¬ xA g b) (hL : L ≤ 2560) (i n k q B : Nat) (hi : i + 5 ≤ L) (hB : B ≤ 512) (w : xw_T) (sz : Nat) (hI : LA g w sz n B) (hk : k + 256 ≤ 603072) (hq : q + 2500 ≤ 7202922) (kk : ∀ (w1 : xw_T) (sz1 n1 : Nat), LA g w1 sz1 n1 (B + 1) → xV p l e room_1 s m args below meth cD Q g 9 w1 sz1 (k + 256) (q + 2500) 1185 [(0, .ref b), (1, .ref (g.2 0)), (2, .ref (g.2 0 + 258)), (3, .ref (g.2 0 + 267)), (4, .ref (g.2 0 + 268)), (5, .int (nI i))] []) : xV p l e room_1 s m args below meth cD Q g 9 w sz k q 477 [(0, .ref b), (1, .ref (g.2 0)), (2, .ref (g.2 0 + 258)), (3, .ref (g.2 0 + 267)), (4, .ref (g.2 0 + 268)), (5, .int (nI i))] [] := by
  obtain ⟨⟨x, la, t, tt, vb, sg, LN, LF, tm, v, bf, sv, pa, lb, td, sm, c0, hc0, hC, hT, hM, hJ, hA⟩, hO, hD⟩ := hI
  refine x_aload_n 1 478 C0 dL_law_477 rfl rfl rfl ?_
  refine x_aload_n 0 479 C0 dL_law_478 rfl rfl rfl ?_
  refine x_iload 5 481 C0 dL_law_479 rfl rfl ?_
  refine x_iconst (v := 1) 482 C0 dL_law_481 rfl (by decide) ?_
  refine x_iadd 483 C0 dL_law_482 rfl ?_
  refine x_st (st1 := [.int (nI (i + 1)), .ref b, .ref (g.2 0)]) (congrArg (fun z => Value.int z :: _) (nI_add i 1)) ?_
  refine x_sld 484 C0 hX hbl hbA (vp_in_nI (n := i + 1) (by omega) (by omega)) dL_law_483 rfl ?_
  refine x_aload_n 3 485 C0 dL_law_484 rfl rfl rfl ?_
  refine x_callSH 488 C0 (e_L_empty l hl g w sz n x la t tt vb sg hC hO ((xs (nI (i + 1)).toNatClampNeg))) dL_law_485 rfl mC_L_empty mM_L_153 mS_L_empty mN_L yd_L_empty rfl rfl ⟨(Nat.le_of_ble_eq_true rfl), (Nat.le_of_ble_eq_true rfl)⟩ rfl rfl (Nat.le_of_ble_eq_true rfl) ⟨by show k + 8 ≤ 603072; omega, by show q + 64 ≤ 7202922; omega⟩ (fun _ _ _ z => False.elim z) (fun r1 w1 sz1 _ hP1 => ?_)
  obtain ⟨k1, x1, la1, t1, rfl, hz1, hF1, hC1, hd1⟩ := hP1
  have hO1 : wO g w1 := by
    rcases hd1 with ⟨-, v9, f9, -, h9, -⟩ | ⟨h9, -⟩
    · exact ⟨f9, h9⟩
    · exact h9
  have hM1 := hM.wf hF1 (Or.inl rfl) hC.zz
  have hT1 := hT.wf hF1 (Or.inl rfl) hz1
  have hD1 := hD.wf hF1 hC.zz
  refine x_st (st1 := [.int k1]) rfl ?_
  refine x_istore [(6, .int k1), (0, .ref b), (1, .ref (g.2 0)), (2, .ref (g.2 0 + 258)), (3, .ref (g.2 0 + 267)), (4, .ref (g.2 0 + 268)), (5, .int (nI i))] 490 C0 dL_law_488 rfl (by decide) rfl ?_
  refine x_aload_n 3 491 C0 dL_law_490 rfl rfl rfl ?_
  refine x_aload_n 1 492 C0 dL_law_491 rfl rfl rfl ?_
  refine x_iload 6 494 C0 dL_law_492 rfl rfl ?_
  refine x_iconst (v := 1) 495 C0 dL_law_494 rfl (by decide) ?_
  refine x_iadd 496 C0 dL_law_495 rfl ?_
  refine x_st (st1 := [.int (nI (i + 1)), .ref b, .ref (g.2 0 + 258)]) (congrArg (fun z => Value.int z :: _) (nI_add i 1)) ?_
  refine x_sld 497 C0 hX hbl hbA (vp_in_nI (n := i + 1) (by omega) (by omega)) dL_law_496 rfl ?_
  refine x_callV 500 C0 (k_X8_empty l hl g w1 sz1 n tm v bf sv pa lb sg td sm hM1 hJ ((xs (nI (i + 1)).toNatClampNeg))) dL_law_497 rfl mC_X8_empty mM_L_155 mI_X8_empty mV_X8_empty mN_X8 yd_X8_empty rfl rfl ⟨(Nat.le_of_ble_eq_true rfl), (Nat.le_of_ble_eq_true rfl)⟩ hM1.o rfl rfl rfl rfl (Nat.le_of_ble_eq_true rfl) ⟨by show k + 8 + 0 ≤ 603072; omega, by show q + 64 + 0 ≤ 7202922; omega⟩ (fun _ _ _ z => False.elim z) (fun r2 w2 sz2 _ hP2 => ?_)
  obtain ⟨rfl, tm2, v2, bf2, pa2, lb2, rfl, hJ2, h72, hQ2⟩ := hP2
  obtain ⟨z2, rfl⟩ := cP_r hQ2
  have hall2 : AI g (MW g w1 tm2 v2 bf2 sv pa2 lb2 sg td sm) sz1 n (B + 1) := by
    rcases hd1 with ⟨hk9, v9, f9, hL9, ho9, hf9⟩ | ⟨-, E9, hX9, hk9⟩
    · obtain ⟨hr9, hz9, c9, LN9, LF9, hc9, hT9, hA9⟩ := al_empty_y ((xs (nI (i + 1)).toNatClampNeg)) hA hT1 hC.k0 (by omega) h72 hQ2 hL9
      exact ⟨_, _, _, _, _, _, _, _, _, _, _, _, _, _, _, _, _, Nat.le_trans hc9 (by omega), hC1.mw, hT9.mw, MR_MW, hJ2, hA9⟩
    · obtain ⟨hz9, c9, LN9, LF9, hc9, hT9, hA9⟩ := al_empty_n ((xs (nI (i + 1)).toNatClampNeg)) hA hT1 hC.k0 (by omega) h72 hQ2 hX9
      exact ⟨_, _, _, _, _, _, _, _, _, _, _, _, _, _, _, _, _, Nat.le_trans hc9 (by omega), hC1.mw, hT9.mw, MR_MW, hJ2, hA9⟩
  refine x_st (st1 := [.int z2]) rfl ?_
  refine x_istore [(7, .int z2), (6, .int k1), (0, .ref b), (1, .ref (g.2 0)), (2, .ref (g.2 0 + 258)), (3, .ref (g.2 0 + 267)), (4, .ref (g.2 0 + 268)), (5, .int (nI i))] 502 C0 dL_law_500 rfl (by decide) rfl ?_
  refine x_goto 1185 C0 dL_law_502 (by decide) ?_
  exact x_widen (k + 256) (q + 2500) (by omega) (by omega) (x_lv [2, 3, 4, 5, 6, 7] rfl (kk _ _ _ ⟨hall2, hO1.mw, hD1.mw⟩))
set_option maxHeartbeats 4000000 in
set_option maxRecDepth 100000 in
theorem law_c8 (hl : l.stackTraces = false) (C0 : xC p l s m args meth cD g cL_law 9 RL rt tb) (hX : va_X b L xs s s.heap) (hbl : b < s.heap.size) (hbA : ¬ xA g b) (hL : L ≤ 2560) (i n k q B : Nat) (hi : i + 5 ≤ L) (hB : B ≤ 512) (w : xw_T) (sz : Nat) (hI : LA g w sz n B) (hk : k + 256 ≤ 603072) (hq : q + 2500 ≤ 7202922) (kk : ∀ (w1 : xw_T) (sz1 n1 : Nat), LA g w1 sz1 n1 (B + 1) → xV p l e room_1 s m args below meth cD Q g 9 w1 sz1 (k + 256) (q + 2500) 1185 [(0, .ref b), (1, .ref (g.2 0)), (2, .ref (g.2 0 + 258)), (3, .ref (g.2 0 + 267)), (4, .ref (g.2 0 + 268)), (5, .int (nI i))] []) : xV p l e room_1 s m args below meth cD Q g 9 w sz k q 505 [(0, .ref b), (1, .ref (g.2 0)), (2, .ref (g.2 0 + 258)), (3, .ref (g.2 0 + 267)), (4, .ref (g.2 0 + 268)), (5, .int (nI i))] [] := by
  obtain ⟨⟨x, la, t, tt, vb, sg, LN, LF, tm, v, bf, sv, pa, lb, td, sm, c0, hc0, hC, hT, hM, hJ, hA⟩, hO, hD⟩ := hI
  refine x_aload_n 1 506 C0 dL_law_505 rfl rfl rfl ?_
  refine x_aload_n 0 507 C0 dL_law_506 rfl rfl rfl ?_
  refine x_iload 5 509 C0 dL_law_507 rfl rfl ?_
  refine x_iconst (v := 1) 510 C0 dL_law_509 rfl (by decide) ?_
  refine x_iadd 511 C0 dL_law_510 rfl ?_
  refine x_st (st1 := [.int (nI (i + 1)), .ref b, .ref (g.2 0)]) (congrArg (fun z => Value.int z :: _) (nI_add i 1)) ?_
  refine x_sld 512 C0 hX hbl hbA (vp_in_nI (n := i + 1) (by omega) (by omega)) dL_law_511 rfl ?_
  refine x_aload_n 0 513 C0 dL_law_512 rfl rfl rfl ?_
  refine x_iload 5 515 C0 dL_law_513 rfl rfl ?_
  refine x_iconst (v := 2) 516 C0 dL_law_515 rfl (by decide) ?_
  refine x_iadd 517 C0 dL_law_516 rfl ?_
  refine x_st (st1 := [.int (nI (i + 2)), .ref b, .int (xs (nI (i + 1)).toNatClampNeg), .ref (g.2 0)]) (congrArg (fun z => Value.int z :: _) (nI_add i 2)) ?_
  refine x_sld 518 C0 hX hbl hbA (vp_in_nI (n := i + 2) (by omega) (by omega)) dL_law_517 rfl ?_
  refine x_aload_n 3 519 C0 dL_law_518 rfl rfl rfl ?_
  refine x_callSH 522 C0 (e_L_screw l hl g w sz n x la t tt vb sg hC hO ((xs (nI (i + 1)).toNatClampNeg)) ((xs (nI (i + 2)).toNatClampNeg))) dL_law_519 rfl mC_L_screw mM_L_156 mS_L_screw mN_L yd_L_screw rfl rfl ⟨(Nat.le_of_ble_eq_true rfl), (Nat.le_of_ble_eq_true rfl)⟩ rfl rfl (Nat.le_of_ble_eq_true rfl) ⟨by show k + 8 ≤ 603072; omega, by show q + 64 ≤ 7202922; omega⟩ (fun _ _ _ z => False.elim z) (fun r1 w1 sz1 _ hP1 => ?_)
  obtain ⟨k1, x1, la1, t1, rfl, hz1, hF1, hC1, hd1⟩ := hP1
  have hO1 : wO g w1 := by
    rcases hd1 with ⟨-, v9, f9, -, h9, -⟩ | ⟨h9, -⟩
    · exact ⟨f9, h9⟩
    · exact h9
  have hM1 := hM.wf hF1 (Or.inl rfl) hC.zz
  have hT1 := hT.wf hF1 (Or.inl rfl) hz1
  have hD1 := hD.wf hF1 hC.zz
  refine x_st (st1 := [.int k1]) rfl ?_
  refine x_istore [(6, .int k1), (0, .ref b), (1, .ref (g.2 0)), (2, .ref (g.2 0 + 258)), (3, .ref (g.2 0 + 267)), (4, .ref (g.2 0 + 268)), (5, .int (nI i))] 524 C0 dL_law_522 rfl (by decide) rfl ?_
  refine x_aload_n 3 525 C0 dL_law_524 rfl rfl rfl ?_
  refine x_aload_n 1 526 C0 dL_law_525 rfl rfl rfl ?_
  refine x_iload 6 528 C0 dL_law_526 rfl rfl ?_
  refine x_iconst (v := 1) 529 C0 dL_law_528 rfl (by decide) ?_
  refine x_iadd 530 C0 dL_law_529 rfl ?_
  refine x_st (st1 := [.int (nI (i + 1)), .ref b, .ref (g.2 0 + 258)]) (congrArg (fun z => Value.int z :: _) (nI_add i 1)) ?_
  refine x_sld 531 C0 hX hbl hbA (vp_in_nI (n := i + 1) (by omega) (by omega)) dL_law_530 rfl ?_
  refine x_aload_n 1 532 C0 dL_law_531 rfl rfl rfl ?_
  refine x_iload 6 534 C0 dL_law_532 rfl rfl ?_
  refine x_iconst (v := 2) 535 C0 dL_law_534 rfl (by decide) ?_
  refine x_iadd 536 C0 dL_law_535 rfl ?_
  refine x_st (st1 := [.int (nI (i + 2)), .ref b, .int (xs (nI (i + 1)).toNatClampNeg), .ref (g.2 0 + 258)]) (congrArg (fun z => Value.int z :: _) (nI_add i 2)) ?_
  refine x_sld 537 C0 hX hbl hbA (vp_in_nI (n := i + 2) (by omega) (by omega)) dL_law_536 rfl ?_
  refine x_callV 540 C0 (k_X8_screw l hl g w1 sz1 n tm v bf sv pa lb sg td sm hM1 hJ ((xs (nI (i + 1)).toNatClampNeg)) ((xs (nI (i + 2)).toNatClampNeg))) dL_law_537 rfl mC_X8_screw mM_L_158 mI_X8_screw mV_X8_screw mN_X8 yd_X8_screw rfl rfl ⟨(Nat.le_of_ble_eq_true rfl), (Nat.le_of_ble_eq_true rfl)⟩ hM1.o rfl rfl rfl rfl (Nat.le_of_ble_eq_true rfl) ⟨by show k + 8 + 0 ≤ 603072; omega, by show q + 64 + 0 ≤ 7202922; omega⟩ (fun _ _ _ z => False.elim z) (fun r2 w2 sz2 _ hP2 => ?_)
  obtain ⟨rfl, tm2, v2, bf2, pa2, lb2, rfl, hJ2, h72, hQ2⟩ := hP2
  obtain ⟨z02, hs2, hQ2⟩ := hQ2
  obtain ⟨z2, rfl⟩ : ∃ z : Int32, r2 = some (.int z) := hs2.elim (fun z => ⟨1, z.2⟩) (fun z => ⟨0, z.2⟩)
  have hall2 : AI g (MW g w1 tm2 v2 bf2 sv pa2 lb2 sg td sm) sz1 n (B + 1) := by
    rcases hd1 with ⟨hk9, v9, f9, hL9, ho9, hf9⟩ | ⟨-, E9, hX9, hk9⟩
    · obtain ⟨hz9, c9, LN9, LF9, hc9, hT9, hA9⟩ := al_screw_y ((xs (nI (i + 1)).toNatClampNeg)) ((xs (nI (i + 2)).toNatClampNeg)) hA hT1 hC.k0 (by omega) h72 hQ2 hL9
      exact ⟨_, _, _, _, _, _, _, _, _, _, _, _, _, _, _, _, _, Nat.le_trans hc9 (by omega), hC1.mw, hT9.mw, MR_MW, hJ2, hA9⟩
    · obtain ⟨hz9, c9, LN9, LF9, hc9, hT9, hA9⟩ := al_screw_n ((xs (nI (i + 1)).toNatClampNeg)) ((xs (nI (i + 2)).toNatClampNeg)) hA hT1 hC.k0 (by omega) h72 hQ2 hX9
      exact ⟨_, _, _, _, _, _, _, _, _, _, _, _, _, _, _, _, _, Nat.le_trans hc9 (by omega), hC1.mw, hT9.mw, MR_MW, hJ2, hA9⟩
  refine x_st (st1 := [.int z2]) rfl ?_
  refine x_istore [(7, .int z2), (6, .int k1), (0, .ref b), (1, .ref (g.2 0)), (2, .ref (g.2 0 + 258)), (3, .ref (g.2 0 + 267)), (4, .ref (g.2 0 + 268)), (5, .int (nI i))] 542 C0 dL_law_540 rfl (by decide) rfl ?_
  refine x_goto 1185 C0 dL_law_542 (by decide) ?_
  exact x_widen (k + 256) (q + 2500) (by omega) (by omega) (x_lv [2, 3, 4, 5, 6, 7] rfl (kk _ _ _ ⟨hall2, hO1.mw, hD1.mw⟩))
set_option maxHeartbeats 4000000 in
set_option maxRecDepth 100000 in
theorem law_c9 (hl : l.stackTraces = false) (C0 : xC p l s m args meth cD g cL_law 9 RL rt tb) (hX : va_X b L xs s s.heap) (hbl : b < s.heap.size) (hbA : ¬ xA g b) (hL : L ≤ 2560) (i n k q B : Nat) (hi : i + 5 ≤ L) (hB : B ≤ 512) (w : xw_T) (sz : Nat) (hI : LA g w sz n B) (hk : k + 256 ≤ 603072) (hq : q + 2500 ≤ 7202922) (kk : ∀ (w1 : xw_T) (sz1 n1 : Nat), LA g w1 sz1 n1 (B + 1) → xV p l e room_1 s m args below meth cD Q g 9 w1 sz1 (k + 256) (q + 2500) 1185 [(0, .ref b), (1, .ref (g.2 0)), (2, .ref (g.2 0 + 258)), (3, .ref (g.2 0 + 267)), (4, .ref (g.2 0 + 268)), (5, .int (nI i))] []) : xV p l e room_1 s m args below meth cD Q g 9 w sz k q 545 [(0, .ref b), (1, .ref (g.2 0)), (2, .ref (g.2 0 + 258)), (3, .ref (g.2 0 + 267)), (4, .ref (g.2 0 + 268)), (5, .int (nI i))] [] := by
  obtain ⟨⟨x, la, t, tt, vb, sg, LN, LF, tm, v, bf, sv, pa, lb, td, sm, c0, hc0, hC, hT, hM, hJ, hA⟩, hO, hD⟩ := hI
  refine x_aload_n 1 546 C0 dL_law_545 rfl rfl rfl ?_
  refine x_aload_n 0 547 C0 dL_law_546 rfl rfl rfl ?_
  refine x_iload 5 549 C0 dL_law_547 rfl rfl ?_
  refine x_iconst (v := 1) 550 C0 dL_law_549 rfl (by decide) ?_
  refine x_iadd 551 C0 dL_law_550 rfl ?_
  refine x_st (st1 := [.int (nI (i + 1)), .ref b, .ref (g.2 0)]) (congrArg (fun z => Value.int z :: _) (nI_add i 1)) ?_
  refine x_sld 552 C0 hX hbl hbA (vp_in_nI (n := i + 1) (by omega) (by omega)) dL_law_551 rfl ?_
  refine x_aload_n 3 553 C0 dL_law_552 rfl rfl rfl ?_
  refine x_callSH 556 C0 (e_L_unscrew l hl g w sz n x la t tt vb sg hC hO ((xs (nI (i + 1)).toNatClampNeg))) dL_law_553 rfl mC_L_unscrew mM_L_159 mS_L_unscrew mN_L yd_L_unscrew rfl rfl ⟨(Nat.le_of_ble_eq_true rfl), (Nat.le_of_ble_eq_true rfl)⟩ rfl rfl (Nat.le_of_ble_eq_true rfl) ⟨by show k + 8 ≤ 603072; omega, by show q + 64 ≤ 7202922; omega⟩ (fun _ _ _ z => False.elim z) (fun r1 w1 sz1 _ hP1 => ?_)
  obtain ⟨k1, x1, la1, t1, rfl, hz1, hF1, hC1, hd1⟩ := hP1
  have hO1 : wO g w1 := by
    rcases hd1 with ⟨-, v9, f9, -, h9, -⟩ | ⟨h9, -⟩
    · exact ⟨f9, h9⟩
    · exact h9
  have hM1 := hM.wf hF1 (Or.inl rfl) hC.zz
  have hT1 := hT.wf hF1 (Or.inl rfl) hz1
  have hD1 := hD.wf hF1 hC.zz
  refine x_st (st1 := [.int k1]) rfl ?_
  refine x_istore [(6, .int k1), (0, .ref b), (1, .ref (g.2 0)), (2, .ref (g.2 0 + 258)), (3, .ref (g.2 0 + 267)), (4, .ref (g.2 0 + 268)), (5, .int (nI i))] 558 C0 dL_law_556 rfl (by decide) rfl ?_
  refine x_aload_n 3 559 C0 dL_law_558 rfl rfl rfl ?_
  refine x_aload_n 1 560 C0 dL_law_559 rfl rfl rfl ?_
  refine x_iload 6 562 C0 dL_law_560 rfl rfl ?_
  refine x_iconst (v := 1) 563 C0 dL_law_562 rfl (by decide) ?_
  refine x_iadd 564 C0 dL_law_563 rfl ?_
  refine x_st (st1 := [.int (nI (i + 1)), .ref b, .ref (g.2 0 + 258)]) (congrArg (fun z => Value.int z :: _) (nI_add i 1)) ?_
  refine x_sld 565 C0 hX hbl hbA (vp_in_nI (n := i + 1) (by omega) (by omega)) dL_law_564 rfl ?_
  refine x_callV 568 C0 (k_X8_unscrew l hl g w1 sz1 n tm v bf sv pa lb sg td sm hM1 hJ ((xs (nI (i + 1)).toNatClampNeg))) dL_law_565 rfl mC_X8_unscrew mM_L_161 mI_X8_unscrew mV_X8_unscrew mN_X8 yd_X8_unscrew rfl rfl ⟨(Nat.le_of_ble_eq_true rfl), (Nat.le_of_ble_eq_true rfl)⟩ hM1.o rfl rfl rfl rfl (Nat.le_of_ble_eq_true rfl) ⟨by show k + 8 + 0 ≤ 603072; omega, by show q + 64 + 0 ≤ 7202922; omega⟩ (fun _ _ _ z => False.elim z) (fun r2 w2 sz2 _ hP2 => ?_)
  obtain ⟨rfl, tm2, v2, bf2, pa2, lb2, rfl, hJ2, h72, hQ2⟩ := hP2
  obtain ⟨z2, rfl⟩ := cP_r hQ2
  have hall2 : AI g (MW g w1 tm2 v2 bf2 sv pa2 lb2 sg td sm) sz1 n (B + 1) := by
    rcases hd1 with ⟨hk9, v9, f9, hL9, ho9, hf9⟩ | ⟨-, E9, hX9, hk9⟩
    · obtain ⟨hr9, hz9, c9, LN9, LF9, hc9, hT9, hA9⟩ := al_unscrew_y ((xs (nI (i + 1)).toNatClampNeg)) hA hT1 hC.k0 (by omega) h72 hQ2 hL9
      exact ⟨_, _, _, _, _, _, _, _, _, _, _, _, _, _, _, _, _, Nat.le_trans hc9 (by omega), hC1.mw, hT9.mw, MR_MW, hJ2, hA9⟩
    · obtain ⟨hz9, c9, LN9, LF9, hc9, hT9, hA9⟩ := al_unscrew_n ((xs (nI (i + 1)).toNatClampNeg)) hA hT1 hC.k0 (by omega) h72 hQ2 hX9
      exact ⟨_, _, _, _, _, _, _, _, _, _, _, _, _, _, _, _, _, Nat.le_trans hc9 (by omega), hC1.mw, hT9.mw, MR_MW, hJ2, hA9⟩
  refine x_st (st1 := [.int z2]) rfl ?_
  refine x_istore [(7, .int z2), (6, .int k1), (0, .ref b), (1, .ref (g.2 0)), (2, .ref (g.2 0 + 258)), (3, .ref (g.2 0 + 267)), (4, .ref (g.2 0 + 268)), (5, .int (nI i))] 570 C0 dL_law_568 rfl (by decide) rfl ?_
  refine x_goto 1185 C0 dL_law_570 (by decide) ?_
  exact x_widen (k + 256) (q + 2500) (by omega) (by omega) (x_lv [2, 3, 4, 5, 6, 7] rfl (kk _ _ _ ⟨hall2, hO1.mw, hD1.mw⟩))
set_option maxHeartbeats 4000000 in
set_option maxRecDepth 100000 in
theorem law_c10 (hl : l.stackTraces = false) (C0 : xC p l s m args meth cD g cL_law 9 RL rt tb) (hX : va_X b L xs s s.heap) (hbl : b < s.heap.size) (hbA : ¬ xA g b) (hL : L ≤ 2560) (i n k q B : Nat) (hi : i + 5 ≤ L) (hB : B ≤ 512) (w : xw_T) (sz : Nat) (hI : LA g w sz n B) (hk : k + 256 ≤ 603072) (hq : q + 2500 ≤ 7202922) (kk : ∀ (w1 : xw_T) (sz1 n1 : Nat), LA g w1 sz1 n1 (B + 1) → xV p l e room_1 s m args below meth cD Q g 9 w1 sz1 (k + 256) (q + 2500) 1185 [(0, .ref b), (1, .ref (g.2 0)), (2, .ref (g.2 0 + 258)), (3, .ref (g.2 0 + 267)), (4, .ref (g.2 0 + 268)), (5, .int (nI i))] []) : xV p l e room_1 s m args below meth cD Q g 9 w sz k q 573 [(0, .ref b), (1, .ref (g.2 0)), (2, .ref (g.2 0 + 258)), (3, .ref (g.2 0 + 267)), (4, .ref (g.2 0 + 268)), (5, .int (nI i))] [] := by
  obtain ⟨⟨x, la, t, tt, vb, sg, LN, LF, tm, v, bf, sv, pa, lb, td, sm, c0, hc0, hC, hT, hM, hJ, hA⟩, hO, hD⟩ := hI
  refine x_aload_n 1 574 C0 dL_law_573 rfl rfl rfl ?_
  refine x_aload_n 0 575 C0 dL_law_574 rfl rfl rfl ?_
  refine x_iload 5 577 C0 dL_law_575 rfl rfl ?_
  refine x_iconst (v := 1) 578 C0 dL_law_577 rfl (by decide) ?_
  refine x_iadd 579 C0 dL_law_578 rfl ?_
  refine x_st (st1 := [.int (nI (i + 1)), .ref b, .ref (g.2 0)]) (congrArg (fun z => Value.int z :: _) (nI_add i 1)) ?_
  refine x_sld 580 C0 hX hbl hbA (vp_in_nI (n := i + 1) (by omega) (by omega)) dL_law_579 rfl ?_
  refine x_aload_n 3 581 C0 dL_law_580 rfl rfl rfl ?_
  refine x_callSH 584 C0 (e_L_label l hl g w sz n x la t tt vb sg hC hO ((xs (nI (i + 1)).toNatClampNeg))) dL_law_581 rfl mC_L_label mM_L_162 mS_L_label mN_L yd_L_label rfl rfl ⟨(Nat.le_of_ble_eq_true rfl), (Nat.le_of_ble_eq_true rfl)⟩ rfl rfl (Nat.le_of_ble_eq_true rfl) ⟨by show k + 8 ≤ 603072; omega, by show q + 64 ≤ 7202922; omega⟩ (fun _ _ _ z => False.elim z) (fun r1 w1 sz1 _ hP1 => ?_)
  obtain ⟨k1, x1, la1, t1, rfl, hz1, hF1, hC1, hd1⟩ := hP1
  have hO1 : wO g w1 := by
    rcases hd1 with ⟨-, v9, f9, -, h9, -⟩ | ⟨h9, -⟩
    · exact ⟨f9, h9⟩
    · exact h9
  have hM1 := hM.wf hF1 (Or.inl rfl) hC.zz
  have hT1 := hT.wf hF1 (Or.inl rfl) hz1
  have hD1 := hD.wf hF1 hC.zz
  refine x_st (st1 := [.int k1]) rfl ?_
  refine x_istore [(6, .int k1), (0, .ref b), (1, .ref (g.2 0)), (2, .ref (g.2 0 + 258)), (3, .ref (g.2 0 + 267)), (4, .ref (g.2 0 + 268)), (5, .int (nI i))] 586 C0 dL_law_584 rfl (by decide) rfl ?_
  refine x_aload_n 3 587 C0 dL_law_586 rfl rfl rfl ?_
  refine x_aload_n 1 588 C0 dL_law_587 rfl rfl rfl ?_
  refine x_iload 6 590 C0 dL_law_588 rfl rfl ?_
  refine x_iconst (v := 1) 591 C0 dL_law_590 rfl (by decide) ?_
  refine x_iadd 592 C0 dL_law_591 rfl ?_
  refine x_st (st1 := [.int (nI (i + 1)), .ref b, .ref (g.2 0 + 258)]) (congrArg (fun z => Value.int z :: _) (nI_add i 1)) ?_
  refine x_sld 593 C0 hX hbl hbA (vp_in_nI (n := i + 1) (by omega) (by omega)) dL_law_592 rfl ?_
  refine x_callV 596 C0 (e_X8_label l hl g w1 sz1 n tm v bf sv pa lb sg td sm hM1 hJ ((xs (nI (i + 1)).toNatClampNeg))) dL_law_593 rfl mC_X8_label mM_L_164 mI_X8_label mV_X8_label mN_X8 yd_X8_label rfl rfl ⟨(Nat.le_of_ble_eq_true rfl), (Nat.le_of_ble_eq_true rfl)⟩ hM1.o rfl rfl rfl rfl (Nat.le_of_ble_eq_true rfl) ⟨by show k + 8 + 0 ≤ 603072; omega, by show q + 64 + 0 ≤ 7202922; omega⟩ (fun _ _ _ z => False.elim z) (fun r2 w2 sz2 _ hP2 => ?_)
  obtain ⟨rfl, tm2, v2, bf2, pa2, lb2, rfl, hJ2, h72, hQ2⟩ := hP2
  obtain ⟨z2, rfl⟩ := cP_r hQ2
  have hall2 : AI g (MW g w1 tm2 v2 bf2 sv pa2 lb2 sg td sm) sz1 n (B + 1) ∧ tm2 0 = k1 ∧ (k1 = 0 → ∃ f, wOf g w1 f ∧ f 0 = Int32.toInt64 z2) := by
    rcases hd1 with ⟨hk9, v9, f9, hL9, ho9, hf9⟩ | ⟨-, E9, hX9, hk9⟩
    · obtain ⟨hr9, hz9, c9, LN9, LF9, hc9, hT9, hA9⟩ := al9_label_y ((xs (nI (i + 1)).toNatClampNeg)) hA hT1 hC.k0 (by omega) h72 hQ2 hL9
      exact ⟨⟨_, _, _, _, _, _, _, _, _, _, _, _, _, _, _, _, _, Nat.le_trans hc9 (by omega), hC1.mw, hT9.mw, MR_MW, hJ2, hA9⟩, hz9.trans hk9.symm, fun _ => ⟨f9, ho9, hf9.trans (congrArg Int32.toInt64 (Value.int.inj (Option.some.inj hr9)))⟩⟩
    · obtain ⟨hz9, c9, LN9, LF9, hc9, hT9, hA9⟩ := al_label_n ((xs (nI (i + 1)).toNatClampNeg)) hA hT1 hC.k0 (by omega) h72 (cP_w hQ2 (fun _ _ _ => R9_labels_w)) hX9
      exact ⟨⟨_, _, _, _, _, _, _, _, _, _, _, _, _, _, _, _, _, Nat.le_trans hc9 (by omega), hC1.mw, hT9.mw, MR_MW, hJ2, hA9⟩, hz9.trans hk9.symm, fun z => absurd (hk9.symm.trans z) (kc_label hX9)⟩
  refine x_st (st1 := [.int z2]) rfl ?_
  refine x_istore [(7, .int z2), (6, .int k1), (0, .ref b), (1, .ref (g.2 0)), (2, .ref (g.2 0 + 258)), (3, .ref (g.2 0 + 267)), (4, .ref (g.2 0 + 268)), (5, .int (nI i))] 598 C0 dL_law_596 rfl (by decide) rfl ?_
  refine x_aload_n 4 599 C0 dL_law_598 rfl rfl rfl ?_
  refine x_callV 602 C0 (k_X8_thrown l hl g (MW g w1 tm2 v2 bf2 sv pa2 lb2 sg td sm) sz1 n tm2 v2 bf2 sv pa2 lb2 sg td sm MR_MW hJ2) dL_law_599 rfl mC_X8_thrown mM_L_165 mI_X8_thrown mV_X8_thrown mN_X8 yd_X8_thrown rfl rfl ⟨(Nat.le_of_ble_eq_true rfl), (Nat.le_of_ble_eq_true rfl)⟩ MR_MW.o rfl rfl rfl rfl (Nat.le_of_ble_eq_true rfl) ⟨by show k + 8 + 0 + 0 ≤ 603072; omega, by show q + 64 + 0 + 0 ≤ 7202922; omega⟩ (fun _ _ _ z => False.elim z) (fun r3 w3 sz3 _ hP3 => ?_)
  obtain ⟨rfl, rfl, rfl⟩ := hP3
  refine x_st (st1 := [.int (tm2 0)]) rfl ?_
  refine x_iload 1 604 C0 dL_law_602 rfl rfl ?_
  refine x_icmp_eq 609 607 C0 dL_law_604 rfl (by decide) (fun _ => ?_) (fun z => absurd hall2.2.1 z)
  refine x_iload 1 611 C0 dL_law_609 rfl rfl ?_
  refine x_if_ne 626 614 C0 dL_law_611 rfl (by decide) (fun _ => ?_) (fun hk0 => ?_)
  · skip
    refine x_goto 1185 C0 dL_law_626 (by decide) ?_
    exact x_widen (k + 256) (q + 2500) (by omega) (by omega) (x_lv [2, 3, 4, 5, 6, 7] rfl (kk _ _ _ ⟨hall2.1, hO1.mw, hD1.mw⟩))
  · obtain ⟨f9, hf9, hf90⟩ := hall2.2.2 hk0
    refine x_aload_n 5 615 C0 dL_law_614 rfl rfl rfl ?_
    refine x_iconst (v := 0) 616 C0 dL_law_615 rfl (by decide) ?_
    refine x_lald 3 617 C0 dL_law_616 rfl ((MW_ne (by omega)).trans hf9) rfl (by unfold vp_in; decide) ?_
    refine x_st (st1 := [.long (f9 0)]) rfl ?_
    refine x_iload 0 619 C0 dL_law_617 rfl rfl ?_
    refine x_i2l (v := (z2).toInt64) 620 C0 dL_law_619 rfl rfl ?_
    refine x_lcmpE 621 C0 dL_law_620 rfl hf90 ?_
    refine x_if_eq 626 624 C0 dL_law_621 rfl (by decide) (fun _ => ?_) (fun z => absurd rfl z)
    refine x_goto 1185 C0 dL_law_626 (by decide) ?_
    exact x_widen (k + 256) (q + 2500) (by omega) (by omega) (x_lv [2, 3, 4, 5, 6, 7] rfl (kk _ _ _ ⟨hall2.1, hO1.mw, hD1.mw⟩))
set_option maxHeartbeats 4000000 in
set_option maxRecDepth 100000 in
theorem law_c11 (hl : l.stackTraces = false) (C0 : xC p l s m args meth cD g cL_law 9 RL rt tb) (hX : va_X b L xs s s.heap) (hbl : b < s.heap.size) (hbA : ¬ xA g b) (hL : L ≤ 2560) (i n k q B : Nat) (hi : i + 5 ≤ L) (hB : B ≤ 512) (w : xw_T) (sz : Nat) (hI : LA g w sz n B) (hk : k + 256 ≤ 603072) (hq : q + 2500 ≤ 7202922) (kk : ∀ (w1 : xw_T) (sz1 n1 : Nat), LA g w1 sz1 n1 (B + 1) → xV p l e room_1 s m args below meth cD Q g 9 w1 sz1 (k + 256) (q + 2500) 1185 [(0, .ref b), (1, .ref (g.2 0)), (2, .ref (g.2 0 + 258)), (3, .ref (g.2 0 + 267)), (4, .ref (g.2 0 + 268)), (5, .int (nI i))] []) : xV p l e room_1 s m args below meth cD Q g 9 w sz k q 629 [(0, .ref b), (1, .ref (g.2 0)), (2, .ref (g.2 0 + 258)), (3, .ref (g.2 0 + 267)), (4, .ref (g.2 0 + 268)), (5, .int (nI i))] [] := by
  obtain ⟨⟨x, la, t, tt, vb, sg, LN, LF, tm, v, bf, sv, pa, lb, td, sm, c0, hc0, hC, hT, hM, hJ, hA⟩, hO, hD⟩ := hI
  refine x_aload_n 1 630 C0 dL_law_629 rfl rfl rfl ?_
  refine x_aload_n 0 631 C0 dL_law_630 rfl rfl rfl ?_
  refine x_iload 5 633 C0 dL_law_631 rfl rfl ?_
  refine x_iconst (v := 1) 634 C0 dL_law_633 rfl (by decide) ?_
  refine x_iadd 635 C0 dL_law_634 rfl ?_
  refine x_st (st1 := [.int (nI (i + 1)), .ref b, .ref (g.2 0)]) (congrArg (fun z => Value.int z :: _) (nI_add i 1)) ?_
  refine x_sld 636 C0 hX hbl hbA (vp_in_nI (n := i + 1) (by omega) (by omega)) dL_law_635 rfl ?_
  refine x_aload_n 0 637 C0 dL_law_636 rfl rfl rfl ?_
  refine x_iload 5 639 C0 dL_law_637 rfl rfl ?_
  refine x_iconst (v := 2) 640 C0 dL_law_639 rfl (by decide) ?_
  refine x_iadd 641 C0 dL_law_640 rfl ?_
  refine x_st (st1 := [.int (nI (i + 2)), .ref b, .int (xs (nI (i + 1)).toNatClampNeg), .ref (g.2 0)]) (congrArg (fun z => Value.int z :: _) (nI_add i 2)) ?_
  refine x_sld 642 C0 hX hbl hbA (vp_in_nI (n := i + 2) (by omega) (by omega)) dL_law_641 rfl ?_
  refine x_aload_n 3 643 C0 dL_law_642 rfl rfl rfl ?_
  refine x_callSH 646 C0 (e_L_labelled l hl g w sz n x la t tt vb sg hC hO ((xs (nI (i + 1)).toNatClampNeg)) ((xs (nI (i + 2)).toNatClampNeg))) dL_law_643 rfl mC_L_labelled mM_L_168 mS_L_labelled mN_L yd_L_labelled rfl rfl ⟨(Nat.le_of_ble_eq_true rfl), (Nat.le_of_ble_eq_true rfl)⟩ rfl rfl (Nat.le_of_ble_eq_true rfl) ⟨by show k + 8 ≤ 603072; omega, by show q + 64 ≤ 7202922; omega⟩ (fun _ _ _ z => False.elim z) (fun r1 w1 sz1 _ hP1 => ?_)
  obtain ⟨k1, x1, la1, t1, rfl, hz1, hF1, hC1, hd1⟩ := hP1
  have hO1 : wO g w1 := by
    rcases hd1 with ⟨-, v9, f9, -, h9, -⟩ | ⟨h9, -⟩
    · exact ⟨f9, h9⟩
    · exact h9
  have hM1 := hM.wf hF1 (Or.inl rfl) hC.zz
  have hT1 := hT.wf hF1 (Or.inl rfl) hz1
  have hD1 := hD.wf hF1 hC.zz
  refine x_st (st1 := [.int k1]) rfl ?_
  refine x_istore [(6, .int k1), (0, .ref b), (1, .ref (g.2 0)), (2, .ref (g.2 0 + 258)), (3, .ref (g.2 0 + 267)), (4, .ref (g.2 0 + 268)), (5, .int (nI i))] 648 C0 dL_law_646 rfl (by decide) rfl ?_
  refine x_aload_n 3 649 C0 dL_law_648 rfl rfl rfl ?_
  refine x_aload_n 1 650 C0 dL_law_649 rfl rfl rfl ?_
  refine x_iload 6 652 C0 dL_law_650 rfl rfl ?_
  refine x_iconst (v := 1) 653 C0 dL_law_652 rfl (by decide) ?_
  refine x_iadd 654 C0 dL_law_653 rfl ?_
  refine x_st (st1 := [.int (nI (i + 1)), .ref b, .ref (g.2 0 + 258)]) (congrArg (fun z => Value.int z :: _) (nI_add i 1)) ?_
  refine x_sld 655 C0 hX hbl hbA (vp_in_nI (n := i + 1) (by omega) (by omega)) dL_law_654 rfl ?_
  refine x_aload_n 1 656 C0 dL_law_655 rfl rfl rfl ?_
  refine x_iload 6 658 C0 dL_law_656 rfl rfl ?_
  refine x_iconst (v := 2) 659 C0 dL_law_658 rfl (by decide) ?_
  refine x_iadd 660 C0 dL_law_659 rfl ?_
  refine x_st (st1 := [.int (nI (i + 2)), .ref b, .int (xs (nI (i + 1)).toNatClampNeg), .ref (g.2 0 + 258)]) (congrArg (fun z => Value.int z :: _) (nI_add i 2)) ?_
  refine x_sld 661 C0 hX hbl hbA (vp_in_nI (n := i + 2) (by omega) (by omega)) dL_law_660 rfl ?_
  refine x_callV 664 C0 (k_X8_labelled l hl g w1 sz1 n tm v bf sv pa lb sg td sm hM1 hJ ((xs (nI (i + 1)).toNatClampNeg)) ((xs (nI (i + 2)).toNatClampNeg))) dL_law_661 rfl mC_X8_labelled mM_L_170 mI_X8_labelled mV_X8_labelled mN_X8 yd_X8_labelled rfl rfl ⟨(Nat.le_of_ble_eq_true rfl), (Nat.le_of_ble_eq_true rfl)⟩ hM1.o rfl rfl rfl rfl (Nat.le_of_ble_eq_true rfl) ⟨by show k + 8 + 0 ≤ 603072; omega, by show q + 64 + 0 ≤ 7202922; omega⟩ (fun _ _ _ z => False.elim z) (fun r2 w2 sz2 _ hP2 => ?_)
  obtain ⟨rfl, tm2, lb2, rfl, hJ2, hL2, hQ2⟩ := hP2
  obtain ⟨z2, rfl⟩ := hQ2
  have hall2 : AI g (MW g w1 tm2 v bf sv pa lb2 sg td sm) sz1 n (B + 1) := by
    rcases hd1 with ⟨hk9, v9, f9, hL9, ho9, hf9⟩ | ⟨-, E9, hX9, hk9⟩
    · obtain ⟨-, rfl, rfl, rfl⟩ := hL9
      exact ⟨_, _, _, _, _, _, _, _, _, _, _, _, _, _, _, _, _, Nat.le_succ_of_le hc0, hC1.mw, hT1.mw, MR_MW, hJ2, (hA.tm (hL2 2 (by decide)) (hL2 7 (by decide)))⟩
    · obtain ⟨-, rfl, rfl, rfl⟩ := hX9
      exact ⟨_, _, _, _, _, _, _, _, _, _, _, _, _, _, _, _, _, Nat.le_succ_of_le hc0, hC1.mw, hT1.mw, MR_MW, hJ2, (hA.tm (hL2 2 (by decide)) (hL2 7 (by decide)))⟩
  refine x_st (st1 := [.int z2]) rfl ?_
  refine x_istore [(7, .int z2), (6, .int k1), (0, .ref b), (1, .ref (g.2 0)), (2, .ref (g.2 0 + 258)), (3, .ref (g.2 0 + 267)), (4, .ref (g.2 0 + 268)), (5, .int (nI i))] 666 C0 dL_law_664 rfl (by decide) rfl ?_
  refine x_goto 1185 C0 dL_law_666 (by decide) ?_
  exact x_widen (k + 256) (q + 2500) (by omega) (by omega) (x_lv [2, 3, 4, 5, 6, 7] rfl (kk _ _ _ ⟨hall2, hO1.mw, hD1.mw⟩))
set_option maxHeartbeats 4000000 in
set_option maxRecDepth 100000 in
theorem law_c12 (hl : l.stackTraces = false) (C0 : xC p l s m args meth cD g cL_law 9 RL rt tb) (hX : va_X b L xs s s.heap) (hbl : b < s.heap.size) (hbA : ¬ xA g b) (hL : L ≤ 2560) (i n k q B : Nat) (hi : i + 5 ≤ L) (hB : B ≤ 512) (w : xw_T) (sz : Nat) (hI : LA g w sz n B) (hk : k + 256 ≤ 603072) (hq : q + 2500 ≤ 7202922) (kk : ∀ (w1 : xw_T) (sz1 n1 : Nat), LA g w1 sz1 n1 (B + 1) → xV p l e room_1 s m args below meth cD Q g 9 w1 sz1 (k + 256) (q + 2500) 1185 [(0, .ref b), (1, .ref (g.2 0)), (2, .ref (g.2 0 + 258)), (3, .ref (g.2 0 + 267)), (4, .ref (g.2 0 + 268)), (5, .int (nI i))] []) : xV p l e room_1 s m args below meth cD Q g 9 w sz k q 669 [(0, .ref b), (1, .ref (g.2 0)), (2, .ref (g.2 0 + 258)), (3, .ref (g.2 0 + 267)), (4, .ref (g.2 0 + 268)), (5, .int (nI i))] [] := by
  obtain ⟨⟨x, la, t, tt, vb, sg, LN, LF, tm, v, bf, sv, pa, lb, td, sm, c0, hc0, hC, hT, hM, hJ, hA⟩, hO, hD⟩ := hI
  refine x_aload_n 1 670 C0 dL_law_669 rfl rfl rfl ?_
  refine x_aload_n 0 671 C0 dL_law_670 rfl rfl rfl ?_
  refine x_iload 5 673 C0 dL_law_671 rfl rfl ?_
  refine x_iconst (v := 1) 674 C0 dL_law_673 rfl (by decide) ?_
  refine x_iadd 675 C0 dL_law_674 rfl ?_
  refine x_st (st1 := [.int (nI (i + 1)), .ref b, .ref (g.2 0)]) (congrArg (fun z => Value.int z :: _) (nI_add i 1)) ?_
  refine x_sld 676 C0 hX hbl hbA (vp_in_nI (n := i + 1) (by omega) (by omega)) dL_law_675 rfl ?_
  refine x_aload_n 0 677 C0 dL_law_676 rfl rfl rfl ?_
  refine x_iload 5 679 C0 dL_law_677 rfl rfl ?_
  refine x_iconst (v := 2) 680 C0 dL_law_679 rfl (by decide) ?_
  refine x_iadd 681 C0 dL_law_680 rfl ?_
  refine x_st (st1 := [.int (nI (i + 2)), .ref b, .int (xs (nI (i + 1)).toNatClampNeg), .ref (g.2 0)]) (congrArg (fun z => Value.int z :: _) (nI_add i 2)) ?_
  refine x_sld 682 C0 hX hbl hbA (vp_in_nI (n := i + 2) (by omega) (by omega)) dL_law_681 rfl ?_
  refine x_aload_n 3 683 C0 dL_law_682 rfl rfl rfl ?_
  refine x_callSH 686 C0 (e_L_chest l hl g w sz n x la t tt vb sg hC hO ((xs (nI (i + 1)).toNatClampNeg)) ((xs (nI (i + 2)).toNatClampNeg))) dL_law_683 rfl mC_L_chest mM_L_171 mS_L_chest mN_L yd_L_chest rfl rfl ⟨(Nat.le_of_ble_eq_true rfl), (Nat.le_of_ble_eq_true rfl)⟩ rfl rfl (Nat.le_of_ble_eq_true rfl) ⟨by show k + 8 ≤ 603072; omega, by show q + 64 ≤ 7202922; omega⟩ (fun _ _ _ z => False.elim z) (fun r1 w1 sz1 _ hP1 => ?_)
  obtain ⟨k1, x1, la1, t1, rfl, hz1, hF1, hC1, hd1⟩ := hP1
  have hO1 : wO g w1 := by
    rcases hd1 with ⟨-, v9, f9, -, h9, -⟩ | ⟨h9, -⟩
    · exact ⟨f9, h9⟩
    · exact h9
  have hM1 := hM.wf hF1 (Or.inl rfl) hC.zz
  have hT1 := hT.wf hF1 (Or.inl rfl) hz1
  have hD1 := hD.wf hF1 hC.zz
  refine x_st (st1 := [.int k1]) rfl ?_
  refine x_istore [(6, .int k1), (0, .ref b), (1, .ref (g.2 0)), (2, .ref (g.2 0 + 258)), (3, .ref (g.2 0 + 267)), (4, .ref (g.2 0 + 268)), (5, .int (nI i))] 688 C0 dL_law_686 rfl (by decide) rfl ?_
  refine x_aload_n 3 689 C0 dL_law_688 rfl rfl rfl ?_
  refine x_aload_n 1 690 C0 dL_law_689 rfl rfl rfl ?_
  refine x_iload 6 692 C0 dL_law_690 rfl rfl ?_
  refine x_iconst (v := 1) 693 C0 dL_law_692 rfl (by decide) ?_
  refine x_iadd 694 C0 dL_law_693 rfl ?_
  refine x_st (st1 := [.int (nI (i + 1)), .ref b, .ref (g.2 0 + 258)]) (congrArg (fun z => Value.int z :: _) (nI_add i 1)) ?_
  refine x_sld 695 C0 hX hbl hbA (vp_in_nI (n := i + 1) (by omega) (by omega)) dL_law_694 rfl ?_
  refine x_aload_n 1 696 C0 dL_law_695 rfl rfl rfl ?_
  refine x_iload 6 698 C0 dL_law_696 rfl rfl ?_
  refine x_iconst (v := 2) 699 C0 dL_law_698 rfl (by decide) ?_
  refine x_iadd 700 C0 dL_law_699 rfl ?_
  refine x_st (st1 := [.int (nI (i + 2)), .ref b, .int (xs (nI (i + 1)).toNatClampNeg), .ref (g.2 0 + 258)]) (congrArg (fun z => Value.int z :: _) (nI_add i 2)) ?_
  refine x_sld 701 C0 hX hbl hbA (vp_in_nI (n := i + 2) (by omega) (by omega)) dL_law_700 rfl ?_
  refine x_callV 704 C0 (k_X8_chest l hl g w1 sz1 n tm v bf sv pa lb sg td sm hM1 hJ ((xs (nI (i + 1)).toNatClampNeg)) ((xs (nI (i + 2)).toNatClampNeg))) dL_law_701 rfl mC_X8_chest mM_L_173 mI_X8_chest mV_X8_chest mN_X8 yd_X8_chest rfl rfl ⟨(Nat.le_of_ble_eq_true rfl), (Nat.le_of_ble_eq_true rfl)⟩ hM1.o rfl rfl rfl rfl (Nat.le_of_ble_eq_true rfl) ⟨by show k + 8 + 0 ≤ 603072; omega, by show q + 64 + 0 ≤ 7202922; omega⟩ (fun _ _ _ z => False.elim z) (fun r2 w2 sz2 _ hP2 => ?_)
  obtain ⟨rfl, tm2, lb2, rfl, hJ2, hL2, hQ2⟩ := hP2
  obtain ⟨⟨z2, rfl⟩, hQ2⟩ := hQ2
  have hall2 : AI g (MW g w1 tm2 v bf sv pa lb2 sg td sm) sz1 n (B + 1) := by
    rcases hd1 with ⟨hk9, v9, f9, hL9, ho9, hf9⟩ | ⟨-, E9, hX9, hk9⟩
    · obtain ⟨-, rfl, rfl, rfl⟩ := hL9
      exact ⟨_, _, _, _, _, _, _, _, _, _, _, _, _, _, _, _, _, Nat.le_succ_of_le hc0, hC1.mw, hT1.mw, MR_MW, hJ2, (hA.tm (hL2 2 (by decide)) (hL2 7 (by decide)))⟩
    · obtain ⟨-, rfl, rfl, rfl⟩ := hX9
      exact ⟨_, _, _, _, _, _, _, _, _, _, _, _, _, _, _, _, _, Nat.le_succ_of_le hc0, hC1.mw, hT1.mw, MR_MW, hJ2, (hA.tm (hL2 2 (by decide)) (hL2 7 (by decide)))⟩
  refine x_st (st1 := [.int z2]) rfl ?_
  refine x_istore [(7, .int z2), (6, .int k1), (0, .ref b), (1, .ref (g.2 0)), (2, .ref (g.2 0 + 258)), (3, .ref (g.2 0 + 267)), (4, .ref (g.2 0 + 268)), (5, .int (nI i))] 706 C0 dL_law_704 rfl (by decide) rfl ?_
  refine x_goto 1185 C0 dL_law_706 (by decide) ?_
  exact x_widen (k + 256) (q + 2500) (by omega) (by omega) (x_lv [2, 3, 4, 5, 6, 7] rfl (kk _ _ _ ⟨hall2, hO1.mw, hD1.mw⟩))
set_option maxHeartbeats 4000000 in
set_option maxRecDepth 100000 in
theorem law_c13 (hl : l.stackTraces = false) (C0 : xC p l s m args meth cD g cL_law 9 RL rt tb) (hX : va_X b L xs s s.heap) (hbl : b < s.heap.size) (hbA : ¬ xA g b) (hL : L ≤ 2560) (i n k q B : Nat) (hi : i + 5 ≤ L) (hB : B ≤ 512) (w : xw_T) (sz : Nat) (hI : LA g w sz n B) (hk : k + 256 ≤ 603072) (hq : q + 2500 ≤ 7202922) (kk : ∀ (w1 : xw_T) (sz1 n1 : Nat), LA g w1 sz1 n1 (B + 1) → xV p l e room_1 s m args below meth cD Q g 9 w1 sz1 (k + 256) (q + 2500) 1185 [(0, .ref b), (1, .ref (g.2 0)), (2, .ref (g.2 0 + 258)), (3, .ref (g.2 0 + 267)), (4, .ref (g.2 0 + 268)), (5, .int (nI i))] []) : xV p l e room_1 s m args below meth cD Q g 9 w sz k q 709 [(0, .ref b), (1, .ref (g.2 0)), (2, .ref (g.2 0 + 258)), (3, .ref (g.2 0 + 267)), (4, .ref (g.2 0 + 268)), (5, .int (nI i))] [] := by
  obtain ⟨⟨x, la, t, tt, vb, sg, LN, LF, tm, v, bf, sv, pa, lb, td, sm, c0, hc0, hC, hT, hM, hJ, hA⟩, hO, hD⟩ := hI
  refine x_aload_n 1 710 C0 dL_law_709 rfl rfl rfl ?_
  refine x_aload_n 0 711 C0 dL_law_710 rfl rfl rfl ?_
  refine x_iload 5 713 C0 dL_law_711 rfl rfl ?_
  refine x_iconst (v := 1) 714 C0 dL_law_713 rfl (by decide) ?_
  refine x_iadd 715 C0 dL_law_714 rfl ?_
  refine x_st (st1 := [.int (nI (i + 1)), .ref b, .ref (g.2 0)]) (congrArg (fun z => Value.int z :: _) (nI_add i 1)) ?_
  refine x_sld 716 C0 hX hbl hbA (vp_in_nI (n := i + 1) (by omega) (by omega)) dL_law_715 rfl ?_
  refine x_aload_n 3 717 C0 dL_law_716 rfl rfl rfl ?_
  refine x_callSH 720 C0 (e_L_worth l hl g w sz n x la t tt vb sg hC hO ((xs (nI (i + 1)).toNatClampNeg))) dL_law_717 rfl mC_L_worth mM_L_174 mS_L_worth mN_L yd_L_worth rfl rfl ⟨(Nat.le_of_ble_eq_true rfl), (Nat.le_of_ble_eq_true rfl)⟩ rfl rfl (Nat.le_of_ble_eq_true rfl) ⟨by show k + 8 ≤ 603072; omega, by show q + 64 ≤ 7202922; omega⟩ (fun _ _ _ z => False.elim z) (fun r1 w1 sz1 _ hP1 => ?_)
  obtain ⟨k1, x1, la1, t1, rfl, hz1, hF1, hC1, hd1⟩ := hP1
  have hO1 : wO g w1 := by
    rcases hd1 with ⟨-, v9, f9, -, h9, -⟩ | ⟨h9, -⟩
    · exact ⟨f9, h9⟩
    · exact h9
  have hM1 := hM.wf hF1 (Or.inl rfl) hC.zz
  have hT1 := hT.wf hF1 (Or.inl rfl) hz1
  have hD1 := hD.wf hF1 hC.zz
  refine x_st (st1 := [.int k1]) rfl ?_
  refine x_istore [(6, .int k1), (0, .ref b), (1, .ref (g.2 0)), (2, .ref (g.2 0 + 258)), (3, .ref (g.2 0 + 267)), (4, .ref (g.2 0 + 268)), (5, .int (nI i))] 722 C0 dL_law_720 rfl (by decide) rfl ?_
  refine x_aload_n 3 723 C0 dL_law_722 rfl rfl rfl ?_
  refine x_aload_n 1 724 C0 dL_law_723 rfl rfl rfl ?_
  refine x_iload 6 726 C0 dL_law_724 rfl rfl ?_
  refine x_iconst (v := 1) 727 C0 dL_law_726 rfl (by decide) ?_
  refine x_iadd 728 C0 dL_law_727 rfl ?_
  refine x_st (st1 := [.int (nI (i + 1)), .ref b, .ref (g.2 0 + 258)]) (congrArg (fun z => Value.int z :: _) (nI_add i 1)) ?_
  refine x_sld 729 C0 hX hbl hbA (vp_in_nI (n := i + 1) (by omega) (by omega)) dL_law_728 rfl ?_
  refine x_callV 732 C0 (k_X8_worth l hl g w1 sz1 n tm v bf sv pa lb sg td sm hM1 hJ ((xs (nI (i + 1)).toNatClampNeg))) dL_law_729 rfl mC_X8_worth mM_L_176 mI_X8_worth mV_X8_worth mN_X8 yd_X8_worth rfl rfl ⟨(Nat.le_of_ble_eq_true rfl), (Nat.le_of_ble_eq_true rfl)⟩ hM1.o rfl rfl rfl rfl (Nat.le_of_ble_eq_true rfl) ⟨by show k + 8 + 0 ≤ 603072; omega, by show q + 64 + 0 ≤ 7202922; omega⟩ (fun _ _ _ z => False.elim z) (fun r2 w2 sz2 _ hP2 => ?_)
  obtain ⟨rfl, tm2, lb2, rfl, hJ2, hL2, hQ2⟩ := hP2
  obtain ⟨⟨z2, rfl⟩, hQ2⟩ := hQ2
  have hall2 : AI g (MW g w1 tm2 v bf sv pa lb2 sg td sm) sz1 n (B + 1) := by
    rcases hd1 with ⟨hk9, v9, f9, hL9, ho9, hf9⟩ | ⟨-, E9, hX9, hk9⟩
    · obtain ⟨-, rfl, rfl, rfl⟩ := hL9
      exact ⟨_, _, _, _, _, _, _, _, _, _, _, _, _, _, _, _, _, Nat.le_succ_of_le hc0, hC1.mw, hT1.mw, MR_MW, hJ2, (hA.tm (hL2 2 (by decide)) (hL2 7 (by decide)))⟩
    · obtain ⟨-, rfl, rfl, rfl⟩ := hX9
      exact ⟨_, _, _, _, _, _, _, _, _, _, _, _, _, _, _, _, _, Nat.le_succ_of_le hc0, hC1.mw, hT1.mw, MR_MW, hJ2, (hA.tm (hL2 2 (by decide)) (hL2 7 (by decide)))⟩
  refine x_st (st1 := [.int z2]) rfl ?_
  refine x_istore [(7, .int z2), (6, .int k1), (0, .ref b), (1, .ref (g.2 0)), (2, .ref (g.2 0 + 258)), (3, .ref (g.2 0 + 267)), (4, .ref (g.2 0 + 268)), (5, .int (nI i))] 734 C0 dL_law_732 rfl (by decide) rfl ?_
  refine x_goto 1185 C0 dL_law_734 (by decide) ?_
  exact x_widen (k + 256) (q + 2500) (by omega) (by omega) (x_lv [2, 3, 4, 5, 6, 7] rfl (kk _ _ _ ⟨hall2, hO1.mw, hD1.mw⟩))
set_option maxHeartbeats 4000000 in
set_option maxRecDepth 100000 in
theorem law_c14 (hl : l.stackTraces = false) (C0 : xC p l s m args meth cD g cL_law 9 RL rt tb) (hX : va_X b L xs s s.heap) (hbl : b < s.heap.size) (hbA : ¬ xA g b) (hL : L ≤ 2560) (i n k q B : Nat) (hi : i + 5 ≤ L) (hB : B ≤ 512) (w : xw_T) (sz : Nat) (hI : LA g w sz n B) (hk : k + 256 ≤ 603072) (hq : q + 2500 ≤ 7202922) (kk : ∀ (w1 : xw_T) (sz1 n1 : Nat), LA g w1 sz1 n1 (B + 1) → xV p l e room_1 s m args below meth cD Q g 9 w1 sz1 (k + 256) (q + 2500) 1185 [(0, .ref b), (1, .ref (g.2 0)), (2, .ref (g.2 0 + 258)), (3, .ref (g.2 0 + 267)), (4, .ref (g.2 0 + 268)), (5, .int (nI i))] []) : xV p l e room_1 s m args below meth cD Q g 9 w sz k q 737 [(0, .ref b), (1, .ref (g.2 0)), (2, .ref (g.2 0 + 258)), (3, .ref (g.2 0 + 267)), (4, .ref (g.2 0 + 268)), (5, .int (nI i))] [] := by
  obtain ⟨⟨x, la, t, tt, vb, sg, LN, LF, tm, v, bf, sv, pa, lb, td, sm, c0, hc0, hC, hT, hM, hJ, hA⟩, hO, hD⟩ := hI
  refine x_aload_n 1 738 C0 dL_law_737 rfl rfl rfl ?_
  refine x_aload_n 0 739 C0 dL_law_738 rfl rfl rfl ?_
  refine x_iload 5 741 C0 dL_law_739 rfl rfl ?_
  refine x_iconst (v := 1) 742 C0 dL_law_741 rfl (by decide) ?_
  refine x_iadd 743 C0 dL_law_742 rfl ?_
  refine x_st (st1 := [.int (nI (i + 1)), .ref b, .ref (g.2 0)]) (congrArg (fun z => Value.int z :: _) (nI_add i 1)) ?_
  refine x_sld 744 C0 hX hbl hbA (vp_in_nI (n := i + 1) (by omega) (by omega)) dL_law_743 rfl ?_
  refine x_aload_n 3 745 C0 dL_law_744 rfl rfl rfl ?_
  refine x_callSH 748 C0 (e_L_ranked l hl g w sz n x la t tt vb sg hC hO ((xs (nI (i + 1)).toNatClampNeg))) dL_law_745 rfl mC_L_ranked mM_L_177 mS_L_ranked mN_L yd_L_ranked rfl rfl ⟨(Nat.le_of_ble_eq_true rfl), (Nat.le_of_ble_eq_true rfl)⟩ rfl rfl (Nat.le_of_ble_eq_true rfl) ⟨by show k + 8 ≤ 603072; omega, by show q + 64 ≤ 7202922; omega⟩ (fun _ _ _ z => False.elim z) (fun r1 w1 sz1 _ hP1 => ?_)
  obtain ⟨k1, x1, la1, t1, rfl, hz1, hF1, hC1, hd1⟩ := hP1
  have hO1 : wO g w1 := by
    rcases hd1 with ⟨-, v9, f9, -, h9, -⟩ | ⟨h9, -⟩
    · exact ⟨f9, h9⟩
    · exact h9
  have hM1 := hM.wf hF1 (Or.inl rfl) hC.zz
  have hT1 := hT.wf hF1 (Or.inl rfl) hz1
  have hD1 := hD.wf hF1 hC.zz
  refine x_st (st1 := [.int k1]) rfl ?_
  refine x_istore [(6, .int k1), (0, .ref b), (1, .ref (g.2 0)), (2, .ref (g.2 0 + 258)), (3, .ref (g.2 0 + 267)), (4, .ref (g.2 0 + 268)), (5, .int (nI i))] 750 C0 dL_law_748 rfl (by decide) rfl ?_
  refine x_aload_n 3 751 C0 dL_law_750 rfl rfl rfl ?_
  refine x_aload_n 1 752 C0 dL_law_751 rfl rfl rfl ?_
  refine x_iload 6 754 C0 dL_law_752 rfl rfl ?_
  refine x_iconst (v := 1) 755 C0 dL_law_754 rfl (by decide) ?_
  refine x_iadd 756 C0 dL_law_755 rfl ?_
  refine x_st (st1 := [.int (nI (i + 1)), .ref b, .ref (g.2 0 + 258)]) (congrArg (fun z => Value.int z :: _) (nI_add i 1)) ?_
  refine x_sld 757 C0 hX hbl hbA (vp_in_nI (n := i + 1) (by omega) (by omega)) dL_law_756 rfl ?_
  refine x_callV 760 C0 (k_X8_ranked l hl g w1 sz1 n tm v bf sv pa lb sg td sm hM1 hJ ((xs (nI (i + 1)).toNatClampNeg))) dL_law_757 rfl mC_X8_ranked mM_L_179 mI_X8_ranked mV_X8_ranked mN_X8 yd_X8_ranked rfl rfl ⟨(Nat.le_of_ble_eq_true rfl), (Nat.le_of_ble_eq_true rfl)⟩ hM1.o rfl rfl rfl rfl (Nat.le_of_ble_eq_true rfl) ⟨by show k + 8 + 0 ≤ 603072; omega, by show q + 64 + 0 ≤ 7202922; omega⟩ (fun _ _ _ z => False.elim z) (fun r2 w2 sz2 _ hP2 => ?_)
  obtain ⟨rfl, tm2, lb2, rfl, hJ2, hL2, hQ2⟩ := hP2
  obtain ⟨z2, rfl⟩ := hQ2
  have hall2 : AI g (MW g w1 tm2 v bf sv pa lb2 sg td sm) sz1 n (B + 1) := by
    rcases hd1 with ⟨hk9, v9, f9, hL9, ho9, hf9⟩ | ⟨-, E9, hX9, hk9⟩
    · obtain ⟨-, rfl, rfl, rfl⟩ := hL9
      exact ⟨_, _, _, _, _, _, _, _, _, _, _, _, _, _, _, _, _, Nat.le_succ_of_le hc0, hC1.mw, hT1.mw, MR_MW, hJ2, (hA.tm (hL2 2 (by decide)) (hL2 7 (by decide)))⟩
    · obtain ⟨-, rfl, rfl, rfl⟩ := hX9
      exact ⟨_, _, _, _, _, _, _, _, _, _, _, _, _, _, _, _, _, Nat.le_succ_of_le hc0, hC1.mw, hT1.mw, MR_MW, hJ2, (hA.tm (hL2 2 (by decide)) (hL2 7 (by decide)))⟩
  refine x_st (st1 := [.int z2]) rfl ?_
  refine x_istore [(7, .int z2), (6, .int k1), (0, .ref b), (1, .ref (g.2 0)), (2, .ref (g.2 0 + 258)), (3, .ref (g.2 0 + 267)), (4, .ref (g.2 0 + 268)), (5, .int (nI i))] 762 C0 dL_law_760 rfl (by decide) rfl ?_
  refine x_goto 1185 C0 dL_law_762 (by decide) ?_
  exact x_widen (k + 256) (q + 2500) (by omega) (by omega) (x_lv [2, 3, 4, 5, 6, 7] rfl (kk _ _ _ ⟨hall2, hO1.mw, hD1.mw⟩))
set_option maxHeartbeats 4000000 in
set_option maxRecDepth 100000 in
theorem law_c15 (hl : l.stackTraces = false) (C0 : xC p l s m args meth cD g cL_law 9 RL rt tb) (hX : va_X b L xs s s.heap) (hbl : b < s.heap.size) (hbA : ¬ xA g b) (hL : L ≤ 2560) (i n k q B : Nat) (hi : i + 5 ≤ L) (hB : B ≤ 512) (w : xw_T) (sz : Nat) (hI : LA g w sz n B) (hk : k + 256 ≤ 603072) (hq : q + 2500 ≤ 7202922) (kk : ∀ (w1 : xw_T) (sz1 n1 : Nat), LA g w1 sz1 n1 (B + 1) → xV p l e room_1 s m args below meth cD Q g 9 w1 sz1 (k + 256) (q + 2500) 1185 [(0, .ref b), (1, .ref (g.2 0)), (2, .ref (g.2 0 + 258)), (3, .ref (g.2 0 + 267)), (4, .ref (g.2 0 + 268)), (5, .int (nI i))] []) : xV p l e room_1 s m args below meth cD Q g 9 w sz k q 765 [(0, .ref b), (1, .ref (g.2 0)), (2, .ref (g.2 0 + 258)), (3, .ref (g.2 0 + 267)), (4, .ref (g.2 0 + 268)), (5, .int (nI i))] [] := by
  obtain ⟨⟨x, la, t, tt, vb, sg, LN, LF, tm, v, bf, sv, pa, lb, td, sm, c0, hc0, hC, hT, hM, hJ, hA⟩, hO, hD⟩ := hI
  refine x_aload_n 1 766 C0 dL_law_765 rfl rfl rfl ?_
  refine x_aload_n 0 767 C0 dL_law_766 rfl rfl rfl ?_
  refine x_iload 5 769 C0 dL_law_767 rfl rfl ?_
  refine x_iconst (v := 1) 770 C0 dL_law_769 rfl (by decide) ?_
  refine x_iadd 771 C0 dL_law_770 rfl ?_
  refine x_st (st1 := [.int (nI (i + 1)), .ref b, .ref (g.2 0)]) (congrArg (fun z => Value.int z :: _) (nI_add i 1)) ?_
  refine x_sld 772 C0 hX hbl hbA (vp_in_nI (n := i + 1) (by omega) (by omega)) dL_law_771 rfl ?_
  refine x_aload_n 3 773 C0 dL_law_772 rfl rfl rfl ?_
  refine x_callSH 776 C0 (e_L_toQuay l hl g w sz n x la t tt vb sg hC (LN 0) (LF 0) (hT 0 (by omega)) hO ((xs (nI (i + 1)).toNatClampNeg))) dL_law_773 rfl mC_L_toQuay mM_L_180 mS_L_toQuay mN_L yd_L_toQuay rfl rfl ⟨(Nat.le_of_ble_eq_true rfl), (Nat.le_of_ble_eq_true rfl)⟩ rfl rfl (Nat.le_of_ble_eq_true rfl) ⟨by show k + 8 ≤ 603072; omega, by show q + 64 ≤ 7202922; omega⟩ (fun _ _ _ z => False.elim z) (fun r1 w1 sz1 _ hP1 => ?_)
  obtain ⟨k1, x1, la1, t1, rfl, hz1, hF1, hC1, hd1⟩ := hP1
  have hO1 : wO g w1 := by
    rcases hd1 with ⟨-, v9, f9, -, h9, -⟩ | ⟨h9, -⟩
    · exact ⟨f9, h9⟩
    · exact h9
  have hM1 := hM.wf hF1 (Or.inl rfl) hC.zz
  have hT1 := hT.wf hF1 (Or.inl rfl) hz1
  have hD1 := hD.wf hF1 hC.zz
  refine x_st (st1 := [.int k1]) rfl ?_
  refine x_istore [(6, .int k1), (0, .ref b), (1, .ref (g.2 0)), (2, .ref (g.2 0 + 258)), (3, .ref (g.2 0 + 267)), (4, .ref (g.2 0 + 268)), (5, .int (nI i))] 778 C0 dL_law_776 rfl (by decide) rfl ?_
  refine x_aload_n 3 779 C0 dL_law_778 rfl rfl rfl ?_
  refine x_aload_n 1 780 C0 dL_law_779 rfl rfl rfl ?_
  refine x_iload 6 782 C0 dL_law_780 rfl rfl ?_
  refine x_iconst (v := 1) 783 C0 dL_law_782 rfl (by decide) ?_
  refine x_iadd 784 C0 dL_law_783 rfl ?_
  refine x_st (st1 := [.int (nI (i + 1)), .ref b, .ref (g.2 0 + 258)]) (congrArg (fun z => Value.int z :: _) (nI_add i 1)) ?_
  refine x_sld 785 C0 hX hbl hbA (vp_in_nI (n := i + 1) (by omega) (by omega)) dL_law_784 rfl ?_
  refine x_callV 788 C0 (k_X8_toQuay l hl g w1 sz1 n tm v bf sv pa lb sg td sm hM1 hJ ((xs (nI (i + 1)).toNatClampNeg))) dL_law_785 rfl mC_X8_toQuay mM_L_182 mI_X8_toQuay mV_X8_toQuay mN_X8 yd_X8_toQuay rfl rfl ⟨(Nat.le_of_ble_eq_true rfl), (Nat.le_of_ble_eq_true rfl)⟩ hM1.o rfl rfl rfl rfl (Nat.le_of_ble_eq_true rfl) ⟨by show k + 8 + 0 ≤ 603072; omega, by show q + 64 + 0 ≤ 7202922; omega⟩ (fun _ _ _ z => False.elim z) (fun r2 w2 sz2 _ hP2 => ?_)
  obtain ⟨rfl, tm2, v2, bf2, pa2, lb2, rfl, hJ2, h72, hQ2⟩ := hP2
  obtain ⟨z2, rfl⟩ := cP_r hQ2
  have hall2 : AI g (MW g w1 tm2 v2 bf2 sv pa2 lb2 sg td sm) sz1 n (B + 1) := by
    rcases hd1 with ⟨hk9, v9, f9, hL9, ho9, hf9⟩ | ⟨-, E9, hX9, hk9⟩
    · obtain ⟨hr9, hz9, c9, LN9, LF9, hc9, hT9, hA9⟩ := al_toQuay_y ((xs (nI (i + 1)).toNatClampNeg)) hA hT1 hC.k0 (by omega) h72 hQ2 hL9
      exact ⟨_, _, _, _, _, _, _, _, _, _, _, _, _, _, _, _, _, Nat.le_trans hc9 (by omega), hC1.mw, hT9.mw, MR_MW, hJ2, hA9⟩
    · obtain ⟨hz9, c9, LN9, LF9, hc9, hT9, hA9⟩ := al_toQuay_n ((xs (nI (i + 1)).toNatClampNeg)) hA hT1 hC.k0 (by omega) h72 hQ2 hX9
      exact ⟨_, _, _, _, _, _, _, _, _, _, _, _, _, _, _, _, _, Nat.le_trans hc9 (by omega), hC1.mw, hT9.mw, MR_MW, hJ2, hA9⟩
  refine x_st (st1 := [.int z2]) rfl ?_
  refine x_istore [(7, .int z2), (6, .int k1), (0, .ref b), (1, .ref (g.2 0)), (2, .ref (g.2 0 + 258)), (3, .ref (g.2 0 + 267)), (4, .ref (g.2 0 + 268)), (5, .int (nI i))] 790 C0 dL_law_788 rfl (by decide) rfl ?_
  refine x_goto 1185 C0 dL_law_790 (by decide) ?_
  exact x_widen (k + 256) (q + 2500) (by omega) (by omega) (x_lv [2, 3, 4, 5, 6, 7] rfl (kk _ _ _ ⟨hall2, hO1.mw, hD1.mw⟩))
set_option maxHeartbeats 4000000 in
set_option maxRecDepth 100000 in
theorem law_c16 (hl : l.stackTraces = false) (C0 : xC p l s m args meth cD g cL_law 9 RL rt tb) (hX : va_X b L xs s s.heap) (hbl : b < s.heap.size) (hbA : ¬ xA g b) (hL : L ≤ 2560) (i n k q B : Nat) (hi : i + 5 ≤ L) (hB : B ≤ 512) (w : xw_T) (sz : Nat) (hI : LA g w sz n B) (hk : k + 256 ≤ 603072) (hq : q + 2500 ≤ 7202922) (kk : ∀ (w1 : xw_T) (sz1 n1 : Nat), LA g w1 sz1 n1 (B + 1) → xV p l e room_1 s m args below meth cD Q g 9 w1 sz1 (k + 256) (q + 2500) 1185 [(0, .ref b), (1, .ref (g.2 0)), (2, .ref (g.2 0 + 258)), (3, .ref (g.2 0 + 267)), (4, .ref (g.2 0 + 268)), (5, .int (nI i))] []) : xV p l e room_1 s m args below meth cD Q g 9 w sz k q 793 [(0, .ref b), (1, .ref (g.2 0)), (2, .ref (g.2 0 + 258)), (3, .ref (g.2 0 + 267)), (4, .ref (g.2 0 + 268)), (5, .int (nI i))] [] := by
  obtain ⟨⟨x, la, t, tt, vb, sg, LN, LF, tm, v, bf, sv, pa, lb, td, sm, c0, hc0, hC, hT, hM, hJ, hA⟩, hO, hD⟩ := hI
  refine x_aload_n 1 794 C0 dL_law_793 rfl rfl rfl ?_
  refine x_aload_n 0 795 C0 dL_law_794 rfl rfl rfl ?_
  refine x_iload 5 797 C0 dL_law_795 rfl rfl ?_
  refine x_iconst (v := 1) 798 C0 dL_law_797 rfl (by decide) ?_
  refine x_iadd 799 C0 dL_law_798 rfl ?_
  refine x_st (st1 := [.int (nI (i + 1)), .ref b, .ref (g.2 0)]) (congrArg (fun z => Value.int z :: _) (nI_add i 1)) ?_
  refine x_sld 800 C0 hX hbl hbA (vp_in_nI (n := i + 1) (by omega) (by omega)) dL_law_799 rfl ?_
  refine x_aload_n 3 801 C0 dL_law_800 rfl rfl rfl ?_
  refine x_callSH 804 C0 (e_L_load l hl g w sz n x la t tt vb sg hC hO ((xs (nI (i + 1)).toNatClampNeg))) dL_law_801 rfl mC_L_load mM_L_183 mS_L_load mN_L yd_L_load rfl rfl ⟨(Nat.le_of_ble_eq_true rfl), (Nat.le_of_ble_eq_true rfl)⟩ rfl rfl (Nat.le_of_ble_eq_true rfl) ⟨by show k + 8 ≤ 603072; omega, by show q + 64 ≤ 7202922; omega⟩ (fun _ _ _ z => False.elim z) (fun r1 w1 sz1 _ hP1 => ?_)
  obtain ⟨k1, x1, la1, t1, rfl, hz1, hF1, hC1, hd1⟩ := hP1
  have hO1 : wO g w1 := by
    rcases hd1 with ⟨-, v9, f9, -, h9, -⟩ | ⟨h9, -⟩
    · exact ⟨f9, h9⟩
    · exact h9
  have hM1 := hM.wf hF1 (Or.inl rfl) hC.zz
  have hT1 := hT.wf hF1 (Or.inl rfl) hz1
  have hD1 := hD.wf hF1 hC.zz
  refine x_st (st1 := [.int k1]) rfl ?_
  refine x_istore [(6, .int k1), (0, .ref b), (1, .ref (g.2 0)), (2, .ref (g.2 0 + 258)), (3, .ref (g.2 0 + 267)), (4, .ref (g.2 0 + 268)), (5, .int (nI i))] 806 C0 dL_law_804 rfl (by decide) rfl ?_
  refine x_aload_n 3 807 C0 dL_law_806 rfl rfl rfl ?_
  refine x_aload_n 1 808 C0 dL_law_807 rfl rfl rfl ?_
  refine x_iload 6 810 C0 dL_law_808 rfl rfl ?_
  refine x_iconst (v := 1) 811 C0 dL_law_810 rfl (by decide) ?_
  refine x_iadd 812 C0 dL_law_811 rfl ?_
  refine x_st (st1 := [.int (nI (i + 1)), .ref b, .ref (g.2 0 + 258)]) (congrArg (fun z => Value.int z :: _) (nI_add i 1)) ?_
  refine x_sld 813 C0 hX hbl hbA (vp_in_nI (n := i + 1) (by omega) (by omega)) dL_law_812 rfl ?_
  refine x_callV 816 C0 (k_X8_load l hl g w1 sz1 n tm v bf sv pa lb sg td sm hM1 hJ ((xs (nI (i + 1)).toNatClampNeg))) dL_law_813 rfl mC_X8_load mM_L_185 mI_X8_load mV_X8_load mN_X8 yd_X8_load rfl rfl ⟨(Nat.le_of_ble_eq_true rfl), (Nat.le_of_ble_eq_true rfl)⟩ hM1.o rfl rfl rfl rfl (Nat.le_of_ble_eq_true rfl) ⟨by show k + 8 + 0 ≤ 603072; omega, by show q + 64 + 0 ≤ 7202922; omega⟩ (fun _ _ _ z => False.elim z) (fun r2 w2 sz2 _ hP2 => ?_)
  obtain ⟨rfl, tm2, v2, bf2, pa2, lb2, rfl, hJ2, h72, hQ2⟩ := hP2
  obtain ⟨z2, rfl⟩ := cP_r hQ2
  have hall2 : AI g (MW g w1 tm2 v2 bf2 sv pa2 lb2 sg td sm) sz1 n (B + 1) := by
    rcases hd1 with ⟨hk9, v9, f9, hL9, ho9, hf9⟩ | ⟨-, E9, hX9, hk9⟩
    · obtain ⟨hr9, hz9, c9, LN9, LF9, hc9, hT9, hA9⟩ := al_load_y ((xs (nI (i + 1)).toNatClampNeg)) hA hT1 hC.k0 (by omega) h72 hQ2 hL9
      exact ⟨_, _, _, _, _, _, _, _, _, _, _, _, _, _, _, _, _, Nat.le_trans hc9 (by omega), hC1.mw, hT9.mw, MR_MW, hJ2, hA9⟩
    · obtain ⟨hz9, c9, LN9, LF9, hc9, hT9, hA9⟩ := al_load_n ((xs (nI (i + 1)).toNatClampNeg)) hA hT1 hC.k0 (by omega) h72 hQ2 hX9
      exact ⟨_, _, _, _, _, _, _, _, _, _, _, _, _, _, _, _, _, Nat.le_trans hc9 (by omega), hC1.mw, hT9.mw, MR_MW, hJ2, hA9⟩
  refine x_st (st1 := [.int z2]) rfl ?_
  refine x_istore [(7, .int z2), (6, .int k1), (0, .ref b), (1, .ref (g.2 0)), (2, .ref (g.2 0 + 258)), (3, .ref (g.2 0 + 267)), (4, .ref (g.2 0 + 268)), (5, .int (nI i))] 818 C0 dL_law_816 rfl (by decide) rfl ?_
  refine x_goto 1185 C0 dL_law_818 (by decide) ?_
  exact x_widen (k + 256) (q + 2500) (by omega) (by omega) (x_lv [2, 3, 4, 5, 6, 7] rfl (kk _ _ _ ⟨hall2, hO1.mw, hD1.mw⟩))
set_option maxHeartbeats 4000000 in
set_option maxRecDepth 100000 in
theorem law_c17 (hl : l.stackTraces = false) (C0 : xC p l s m args meth cD g cL_law 9 RL rt tb) (hX : va_X b L xs s s.heap) (hbl : b < s.heap.size) (hbA : ¬ xA g b) (hL : L ≤ 2560) (i n k q B : Nat) (hi : i + 5 ≤ L) (hB : B ≤ 512) (w : xw_T) (sz : Nat) (hI : LA g w sz n B) (hk : k + 256 ≤ 603072) (hq : q + 2500 ≤ 7202922) (kk : ∀ (w1 : xw_T) (sz1 n1 : Nat), LA g w1 sz1 n1 (B + 1) → xV p l e room_1 s m args below meth cD Q g 9 w1 sz1 (k + 256) (q + 2500) 1185 [(0, .ref b), (1, .ref (g.2 0)), (2, .ref (g.2 0 + 258)), (3, .ref (g.2 0 + 267)), (4, .ref (g.2 0 + 268)), (5, .int (nI i))] []) : xV p l e room_1 s m args below meth cD Q g 9 w sz k q 821 [(0, .ref b), (1, .ref (g.2 0)), (2, .ref (g.2 0 + 258)), (3, .ref (g.2 0 + 267)), (4, .ref (g.2 0 + 268)), (5, .int (nI i))] [] := by
  obtain ⟨⟨x, la, t, tt, vb, sg, LN, LF, tm, v, bf, sv, pa, lb, td, sm, c0, hc0, hC, hT, hM, hJ, hA⟩, hO, hD⟩ := hI
  refine x_aload_n 1 822 C0 dL_law_821 rfl rfl rfl ?_
  refine x_aload_n 3 823 C0 dL_law_822 rfl rfl rfl ?_
  refine x_callSH 826 C0 (e_L_sail l hl g w sz n x la t tt vb sg hC hO) dL_law_823 rfl mC_L_sail mM_L_186 mS_L_sail mN_L yd_L_sail rfl rfl ⟨(Nat.le_of_ble_eq_true rfl), (Nat.le_of_ble_eq_true rfl)⟩ rfl rfl (Nat.le_of_ble_eq_true rfl) ⟨by show k + 8 ≤ 603072; omega, by show q + 64 ≤ 7202922; omega⟩ (fun _ _ _ z => False.elim z) (fun r1 w1 sz1 _ hP1 => ?_)
  obtain ⟨k1, x1, la1, t1, rfl, hz1, hF1, hC1, hd1⟩ := hP1
  have hO1 : wO g w1 := by
    rcases hd1 with ⟨-, v9, f9, -, h9, -⟩ | ⟨h9, -⟩
    · exact ⟨f9, h9⟩
    · exact h9
  have hM1 := hM.wf hF1 (Or.inl rfl) hC.zz
  have hT1 := hT.wf hF1 (Or.inl rfl) hz1
  have hD1 := hD.wf hF1 hC.zz
  refine x_st (st1 := [.int k1]) rfl ?_
  refine x_istore [(6, .int k1), (0, .ref b), (1, .ref (g.2 0)), (2, .ref (g.2 0 + 258)), (3, .ref (g.2 0 + 267)), (4, .ref (g.2 0 + 268)), (5, .int (nI i))] 828 C0 dL_law_826 rfl (by decide) rfl ?_
  refine x_aload_n 3 829 C0 dL_law_828 rfl rfl rfl ?_
  refine x_callV 832 C0 (k_X8_sail l hl g w1 sz1 n tm v bf sv pa lb sg td sm hM1 hJ) dL_law_829 rfl mC_X8_sail mM_L_189 mI_X8_sail mV_X8_sail mN_X8 yd_X8_sail rfl rfl ⟨(Nat.le_of_ble_eq_true rfl), (Nat.le_of_ble_eq_true rfl)⟩ hM1.o rfl rfl rfl rfl (Nat.le_of_ble_eq_true rfl) ⟨by show k + 8 + 0 ≤ 603072; omega, by show q + 64 + 0 ≤ 7202922; omega⟩ (fun _ _ _ z => False.elim z) (fun r2 w2 sz2 _ hP2 => ?_)
  obtain ⟨rfl, tm2, v2, bf2, pa2, lb2, rfl, hJ2, h72, hQ2⟩ := hP2
  obtain ⟨z2, rfl⟩ := cP_r hQ2
  have hall2 : AI g (MW g w1 tm2 v2 bf2 sv pa2 lb2 sg td sm) sz1 n (B + 1) := by
    rcases hd1 with ⟨hk9, v9, f9, hL9, ho9, hf9⟩ | ⟨-, E9, hX9, hk9⟩
    · obtain ⟨hr9, hz9, c9, LN9, LF9, hc9, hT9, hA9⟩ := al_sail_y hA hT1 hC.k0 (by omega) h72 hQ2 hL9
      exact ⟨_, _, _, _, _, _, _, _, _, _, _, _, _, _, _, _, _, Nat.le_trans hc9 (by omega), hC1.mw, hT9.mw, MR_MW, hJ2, hA9⟩
    · obtain ⟨hz9, c9, LN9, LF9, hc9, hT9, hA9⟩ := al_sail_n hA hT1 hC.k0 (by omega) h72 hQ2 hX9
      exact ⟨_, _, _, _, _, _, _, _, _, _, _, _, _, _, _, _, _, Nat.le_trans hc9 (by omega), hC1.mw, hT9.mw, MR_MW, hJ2, hA9⟩
  refine x_st (st1 := [.int z2]) rfl ?_
  refine x_istore [(7, .int z2), (6, .int k1), (0, .ref b), (1, .ref (g.2 0)), (2, .ref (g.2 0 + 258)), (3, .ref (g.2 0 + 267)), (4, .ref (g.2 0 + 268)), (5, .int (nI i))] 834 C0 dL_law_832 rfl (by decide) rfl ?_
  refine x_goto 1185 C0 dL_law_834 (by decide) ?_
  exact x_widen (k + 256) (q + 2500) (by omega) (by omega) (x_lv [2, 3, 4, 5, 6, 7] rfl (kk _ _ _ ⟨hall2, hO1.mw, hD1.mw⟩))
set_option maxHeartbeats 4000000 in
set_option maxRecDepth 100000 in
theorem law_c18 (hl : l.stackTraces = false) (C0 : xC p l s m args meth cD g cL_law 9 RL rt tb) (hX : va_X b L xs s s.heap) (hbl : b < s.heap.size) (hbA : ¬ xA g b) (hL : L ≤ 2560) (i n k q B : Nat) (hi : i + 5 ≤ L) (hB : B ≤ 512) (w : xw_T) (sz : Nat) (hI : LA g w sz n B) (hk : k + 256 ≤ 603072) (hq : q + 2500 ≤ 7202922) (kk : ∀ (w1 : xw_T) (sz1 n1 : Nat), LA g w1 sz1 n1 (B + 1) → xV p l e room_1 s m args below meth cD Q g 9 w1 sz1 (k + 256) (q + 2500) 1185 [(0, .ref b), (1, .ref (g.2 0)), (2, .ref (g.2 0 + 258)), (3, .ref (g.2 0 + 267)), (4, .ref (g.2 0 + 268)), (5, .int (nI i))] []) : xV p l e room_1 s m args below meth cD Q g 9 w sz k q 837 [(0, .ref b), (1, .ref (g.2 0)), (2, .ref (g.2 0 + 258)), (3, .ref (g.2 0 + 267)), (4, .ref (g.2 0 + 268)), (5, .int (nI i))] [] := by
  obtain ⟨⟨x, la, t, tt, vb, sg, LN, LF, tm, v, bf, sv, pa, lb, td, sm, c0, hc0, hC, hT, hM, hJ, hA⟩, hO, hD⟩ := hI
  refine x_aload_n 1 838 C0 dL_law_837 rfl rfl rfl ?_
  refine x_callV 841 C0 (e_X7_cargo l hl g w sz n x la t tt vb sg hC) dL_law_838 rfl mC_X7_cargo mM_L_190 mI_X7_cargo mV_X7_cargo mN_X7 yd_X7_cargo rfl rfl ⟨(Nat.le_of_ble_eq_true rfl), (Nat.le_of_ble_eq_true rfl)⟩ hC.1.1 rfl rfl rfl rfl (Nat.le_of_ble_eq_true rfl) ⟨by show k + 8 ≤ 603072; omega, by show q + 64 ≤ 7202922; omega⟩ (fun _ _ _ z => False.elim z) (fun r1 w1 sz1 _ hP1 => ?_)
  obtain ⟨⟨k1, rfl⟩, hF1, hz1, x1, la1, t1, hC1, hL1⟩ := hP1
  have hM1 := hM.wf (hF1.wf (a := 267)) (Or.inl rfl) hC.zz
  have hT1 := hT.wf (hF1.wf (a := 267)) (Or.inl rfl) hz1
  have hO1 := hO.xf hF1 hC.zz
  have hD1 := hD.wf hF1.wf hC.zz
  refine x_st (st1 := [.int k1]) rfl ?_
  refine x_pop 842 C0 dL_law_841 rfl rfl ?_
  refine x_aload_n 2 843 C0 dL_law_842 rfl rfl rfl ?_
  refine x_callV 846 C0 (k_X8_cargo l hl g w1 sz1 n tm v bf sv pa lb sg td sm hM1 hJ) dL_law_843 rfl mC_X8_cargo mM_L_193 mI_X8_cargo mV_X8_cargo mN_X8 yd_X8_cargo rfl rfl ⟨(Nat.le_of_ble_eq_true rfl), (Nat.le_of_ble_eq_true rfl)⟩ hM1.o rfl rfl rfl rfl (Nat.le_of_ble_eq_true rfl) ⟨by show k + 8 + 0 ≤ 603072; omega, by show q + 64 + 0 ≤ 7202922; omega⟩ (fun _ _ _ z => False.elim z) (fun r2 w2 sz2 _ hP2 => ?_)
  obtain ⟨rfl, tm2, lb2, rfl, hJ2, hL2, hQ2⟩ := hP2
  obtain ⟨⟨z2, rfl⟩, hQ2⟩ := hQ2
  obtain ⟨rfl, rfl, rfl⟩ := st_cargo hL1
  have hall2 : AI g (MW g w1 tm2 v bf sv pa lb2 sg td sm) sz1 n (B + 1) := ⟨_, _, _, _, _, _, _, _, _, _, _, _, _, _, _, _, _, Nat.le_succ_of_le hc0, hC1.mw, hT1.mw, MR_MW, hJ2, (hA.tm (hL2 2 (by decide)) (hL2 7 (by decide)))⟩
  refine x_st (st1 := [.int z2]) rfl ?_
  refine x_pop 847 C0 dL_law_846 rfl rfl ?_
  refine x_goto 1185 C0 dL_law_847 (by decide) ?_
  exact x_widen (k + 256) (q + 2500) (by omega) (by omega) (x_lv [0, 1, 2, 3, 4, 5] rfl (kk _ _ _ ⟨hall2, hO1.mw, hD1.mw⟩))
set_option maxHeartbeats 4000000 in
set_option maxRecDepth 100000 in
theorem law_c19 (hl : l.stackTraces = false) (C0 : xC p l s m args meth cD g cL_law 9 RL rt tb) (hX : va_X b L xs s s.heap) (hbl : b < s.heap.size) (hbA : ¬ xA g b) (hL : L ≤ 2560) (i n k q B : Nat) (hi : i + 5 ≤ L) (hB : B ≤ 512) (w : xw_T) (sz : Nat) (hI : LA g w sz n B) (hk : k + 256 ≤ 603072) (hq : q + 2500 ≤ 7202922) (kk : ∀ (w1 : xw_T) (sz1 n1 : Nat), LA g w1 sz1 n1 (B + 1) → xV p l e room_1 s m args below meth cD Q g 9 w1 sz1 (k + 256) (q + 2500) 1185 [(0, .ref b), (1, .ref (g.2 0)), (2, .ref (g.2 0 + 258)), (3, .ref (g.2 0 + 267)), (4, .ref (g.2 0 + 268)), (5, .int (nI i))] []) : xV p l e room_1 s m args below meth cD Q g 9 w sz k q 850 [(0, .ref b), (1, .ref (g.2 0)), (2, .ref (g.2 0 + 258)), (3, .ref (g.2 0 + 267)), (4, .ref (g.2 0 + 268)), (5, .int (nI i))] [] := by
  obtain ⟨⟨x, la, t, tt, vb, sg, LN, LF, tm, v, bf, sv, pa, lb, td, sm, c0, hc0, hC, hT, hM, hJ, hA⟩, hO, hD⟩ := hI
  refine x_aload_n 1 851 C0 dL_law_850 rfl rfl rfl ?_
  refine x_aload_n 0 852 C0 dL_law_851 rfl rfl rfl ?_
  refine x_iload 5 854 C0 dL_law_852 rfl rfl ?_
  refine x_iconst (v := 1) 855 C0 dL_law_854 rfl (by decide) ?_
  refine x_iadd 856 C0 dL_law_855 rfl ?_
  refine x_st (st1 := [.int (nI (i + 1)), .ref b, .ref (g.2 0)]) (congrArg (fun z => Value.int z :: _) (nI_add i 1)) ?_
  refine x_sld 857 C0 hX hbl hbA (vp_in_nI (n := i + 1) (by omega) (by omega)) dL_law_856 rfl ?_
  refine x_aload_n 3 858 C0 dL_law_857 rfl rfl rfl ?_
  refine x_callSH 861 C0 (e_L_height l hl g w sz n x la t tt vb sg hC hO ((xs (nI (i + 1)).toNatClampNeg))) dL_law_858 rfl mC_L_height mM_L_194 mS_L_height mN_L yd_L_height rfl rfl ⟨(Nat.le_of_ble_eq_true rfl), (Nat.le_of_ble_eq_true rfl)⟩ rfl rfl (Nat.le_of_ble_eq_true rfl) ⟨by show k + 8 ≤ 603072; omega, by show q + 64 ≤ 7202922; omega⟩ (fun _ _ _ z => False.elim z) (fun r1 w1 sz1 _ hP1 => ?_)
  obtain ⟨k1, x1, la1, t1, rfl, hz1, hF1, hC1, hd1⟩ := hP1
  have hO1 : wO g w1 := by
    rcases hd1 with ⟨-, v9, f9, -, h9, -⟩ | ⟨h9, -⟩
    · exact ⟨f9, h9⟩
    · exact h9
  have hM1 := hM.wf hF1 (Or.inl rfl) hC.zz
  have hT1 := hT.wf hF1 (Or.inl rfl) hz1
  have hD1 := hD.wf hF1 hC.zz
  refine x_st (st1 := [.int k1]) rfl ?_
  refine x_istore [(6, .int k1), (0, .ref b), (1, .ref (g.2 0)), (2, .ref (g.2 0 + 258)), (3, .ref (g.2 0 + 267)), (4, .ref (g.2 0 + 268)), (5, .int (nI i))] 863 C0 dL_law_861 rfl (by decide) rfl ?_
  refine x_aload_n 3 864 C0 dL_law_863 rfl rfl rfl ?_
  refine x_aload_n 1 865 C0 dL_law_864 rfl rfl rfl ?_
  refine x_iload 6 867 C0 dL_law_865 rfl rfl ?_
  refine x_iconst (v := 1) 868 C0 dL_law_867 rfl (by decide) ?_
  refine x_iadd 869 C0 dL_law_868 rfl ?_
  refine x_st (st1 := [.int (nI (i + 1)), .ref b, .ref (g.2 0 + 258)]) (congrArg (fun z => Value.int z :: _) (nI_add i 1)) ?_
  refine x_sld 870 C0 hX hbl hbA (vp_in_nI (n := i + 1) (by omega) (by omega)) dL_law_869 rfl ?_
  refine x_callV 873 C0 (k_X8_height l hl g w1 sz1 n tm v bf sv pa lb sg td sm hM1 hJ ((xs (nI (i + 1)).toNatClampNeg))) dL_law_870 rfl mC_X8_height mM_L_196 mI_X8_height mV_X8_height mN_X8 yd_X8_height rfl rfl ⟨(Nat.le_of_ble_eq_true rfl), (Nat.le_of_ble_eq_true rfl)⟩ hM1.o rfl rfl rfl rfl (Nat.le_of_ble_eq_true rfl) ⟨by show k + 8 + 0 ≤ 603072; omega, by show q + 64 + 0 ≤ 7202922; omega⟩ (fun _ _ _ z => False.elim z) (fun r2 w2 sz2 _ hP2 => ?_)
  obtain ⟨rfl, tm2, lb2, rfl, hJ2, hL2, hQ2⟩ := hP2
  obtain ⟨⟨z2, rfl⟩, hQ2⟩ := hQ2
  have hall2 : AI g (MW g w1 tm2 v bf sv pa lb2 sg td sm) sz1 n (B + 1) := by
    rcases hd1 with ⟨hk9, v9, f9, hL9, ho9, hf9⟩ | ⟨-, E9, hX9, hk9⟩
    · obtain ⟨rfl, rfl, rfl⟩ := st_height hL9
      exact ⟨_, _, _, _, _, _, _, _, _, _, _, _, _, _, _, _, _, Nat.le_succ_of_le hc0, hC1.mw, hT1.mw, MR_MW, hJ2, (hA.tm (hL2 2 (by decide)) (hL2 7 (by decide)))⟩
    · obtain ⟨rfl, rfl, rfl⟩ := sx_height hX9
      exact ⟨_, _, _, _, _, _, _, _, _, _, _, _, _, _, _, _, _, Nat.le_succ_of_le hc0, hC1.mw, hT1.mw, MR_MW, hJ2, (hA.tm (hL2 2 (by decide)) (hL2 7 (by decide)))⟩
  refine x_st (st1 := [.int z2]) rfl ?_
  refine x_istore [(7, .int z2), (6, .int k1), (0, .ref b), (1, .ref (g.2 0)), (2, .ref (g.2 0 + 258)), (3, .ref (g.2 0 + 267)), (4, .ref (g.2 0 + 268)), (5, .int (nI i))] 875 C0 dL_law_873 rfl (by decide) rfl ?_
  refine x_goto 1185 C0 dL_law_875 (by decide) ?_
  exact x_widen (k + 256) (q + 2500) (by omega) (by omega) (x_lv [2, 3, 4, 5, 6, 7] rfl (kk _ _ _ ⟨hall2, hO1.mw, hD1.mw⟩))
set_option maxHeartbeats 4000000 in
set_option maxRecDepth 100000 in
theorem law_c20 (hl : l.stackTraces = false) (C0 : xC p l s m args meth cD g cL_law 9 RL rt tb) (hX : va_X b L xs s s.heap) (hbl : b < s.heap.size) (hbA : ¬ xA g b) (hL : L ≤ 2560) (i n k q B : Nat) (hi : i + 5 ≤ L) (hB : B ≤ 512) (w : xw_T) (sz : Nat) (hI : LA g w sz n B) (hk : k + 256 ≤ 603072) (hq : q + 2500 ≤ 7202922) (kk : ∀ (w1 : xw_T) (sz1 n1 : Nat), LA g w1 sz1 n1 (B + 1) → xV p l e room_1 s m args below meth cD Q g 9 w1 sz1 (k + 256) (q + 2500) 1185 [(0, .ref b), (1, .ref (g.2 0)), (2, .ref (g.2 0 + 258)), (3, .ref (g.2 0 + 267)), (4, .ref (g.2 0 + 268)), (5, .int (nI i))] []) : xV p l e room_1 s m args below meth cD Q g 9 w sz k q 878 [(0, .ref b), (1, .ref (g.2 0)), (2, .ref (g.2 0 + 258)), (3, .ref (g.2 0 + 267)), (4, .ref (g.2 0 + 268)), (5, .int (nI i))] [] := by
  obtain ⟨⟨x, la, t, tt, vb, sg, LN, LF, tm, v, bf, sv, pa, lb, td, sm, c0, hc0, hC, hT, hM, hJ, hA⟩, hO, hD⟩ := hI
  refine x_aload_n 1 879 C0 dL_law_878 rfl rfl rfl ?_
  refine x_aload_n 0 880 C0 dL_law_879 rfl rfl rfl ?_
  refine x_iload 5 882 C0 dL_law_880 rfl rfl ?_
  refine x_iconst (v := 1) 883 C0 dL_law_882 rfl (by decide) ?_
  refine x_iadd 884 C0 dL_law_883 rfl ?_
  refine x_st (st1 := [.int (nI (i + 1)), .ref b, .ref (g.2 0)]) (congrArg (fun z => Value.int z :: _) (nI_add i 1)) ?_
  refine x_sld 885 C0 hX hbl hbA (vp_in_nI (n := i + 1) (by omega) (by omega)) dL_law_884 rfl ?_
  refine x_aload_n 3 886 C0 dL_law_885 rfl rfl rfl ?_
  refine x_callSH 889 C0 (e_L_heightAgain l hl g w sz n x la t tt vb sg hC hO ((xs (nI (i + 1)).toNatClampNeg))) dL_law_886 rfl mC_L_heightAgain mM_L_197 mS_L_heightAgain mN_L yd_L_heightAgain rfl rfl ⟨(Nat.le_of_ble_eq_true rfl), (Nat.le_of_ble_eq_true rfl)⟩ rfl rfl (Nat.le_of_ble_eq_true rfl) ⟨by show k + 8 ≤ 603072; omega, by show q + 64 ≤ 7202922; omega⟩ (fun _ _ _ z => False.elim z) (fun r1 w1 sz1 _ hP1 => ?_)
  obtain ⟨k1, x1, la1, t1, rfl, hz1, hF1, hC1, hd1⟩ := hP1
  have hO1 : wO g w1 := by
    rcases hd1 with ⟨-, v9, f9, -, h9, -⟩ | ⟨h9, -⟩
    · exact ⟨f9, h9⟩
    · exact h9
  have hM1 := hM.wf hF1 (Or.inl rfl) hC.zz
  have hT1 := hT.wf hF1 (Or.inl rfl) hz1
  have hD1 := hD.wf hF1 hC.zz
  refine x_st (st1 := [.int k1]) rfl ?_
  refine x_istore [(6, .int k1), (0, .ref b), (1, .ref (g.2 0)), (2, .ref (g.2 0 + 258)), (3, .ref (g.2 0 + 267)), (4, .ref (g.2 0 + 268)), (5, .int (nI i))] 891 C0 dL_law_889 rfl (by decide) rfl ?_
  refine x_aload_n 3 892 C0 dL_law_891 rfl rfl rfl ?_
  refine x_aload_n 1 893 C0 dL_law_892 rfl rfl rfl ?_
  refine x_iload 6 895 C0 dL_law_893 rfl rfl ?_
  refine x_iconst (v := 1) 896 C0 dL_law_895 rfl (by decide) ?_
  refine x_iadd 897 C0 dL_law_896 rfl ?_
  refine x_st (st1 := [.int (nI (i + 1)), .ref b, .ref (g.2 0 + 258)]) (congrArg (fun z => Value.int z :: _) (nI_add i 1)) ?_
  refine x_sld 898 C0 hX hbl hbA (vp_in_nI (n := i + 1) (by omega) (by omega)) dL_law_897 rfl ?_
  refine x_callV 901 C0 (k_X8_heightAgain l hl g w1 sz1 n tm v bf sv pa lb sg td sm hM1 hJ ((xs (nI (i + 1)).toNatClampNeg))) dL_law_898 rfl mC_X8_heightAgain mM_L_199 mI_X8_heightAgain mV_X8_heightAgain mN_X8 yd_X8_heightAgain rfl rfl ⟨(Nat.le_of_ble_eq_true rfl), (Nat.le_of_ble_eq_true rfl)⟩ hM1.o rfl rfl rfl rfl (Nat.le_of_ble_eq_true rfl) ⟨by show k + 8 + 0 ≤ 603072; omega, by show q + 64 + 0 ≤ 7202922; omega⟩ (fun _ _ _ z => False.elim z) (fun r2 w2 sz2 _ hP2 => ?_)
  obtain ⟨rfl, tm2, lb2, rfl, hJ2, hL2, hQ2⟩ := hP2
  obtain ⟨⟨z2, rfl⟩, hQ2⟩ := hQ2
  have hall2 : AI g (MW g w1 tm2 v bf sv pa lb2 sg td sm) sz1 n (B + 1) := by
    rcases hd1 with ⟨hk9, v9, f9, hL9, ho9, hf9⟩ | ⟨-, E9, hX9, hk9⟩
    · obtain ⟨-, rfl, rfl, rfl⟩ := hL9
      exact ⟨_, _, _, _, _, _, _, _, _, _, _, _, _, _, _, _, _, Nat.le_succ_of_le hc0, hC1.mw, hT1.mw, MR_MW, hJ2, (hA.tm (hL2 2 (by decide)) (hL2 7 (by decide)))⟩
    · obtain ⟨-, rfl, rfl, rfl⟩ := hX9
      exact ⟨_, _, _, _, _, _, _, _, _, _, _, _, _, _, _, _, _, Nat.le_succ_of_le hc0, hC1.mw, hT1.mw, MR_MW, hJ2, (hA.tm (hL2 2 (by decide)) (hL2 7 (by decide)))⟩
  refine x_st (st1 := [.int z2]) rfl ?_
  refine x_istore [(7, .int z2), (6, .int k1), (0, .ref b), (1, .ref (g.2 0)), (2, .ref (g.2 0 + 258)), (3, .ref (g.2 0 + 267)), (4, .ref (g.2 0 + 268)), (5, .int (nI i))] 903 C0 dL_law_901 rfl (by decide) rfl ?_
  refine x_goto 1185 C0 dL_law_903 (by decide) ?_
  exact x_widen (k + 256) (q + 2500) (by omega) (by omega) (x_lv [2, 3, 4, 5, 6, 7] rfl (kk _ _ _ ⟨hall2, hO1.mw, hD1.mw⟩))
set_option maxHeartbeats 4000000 in
set_option maxRecDepth 100000 in
theorem law_c21 (hl : l.stackTraces = false) (C0 : xC p l s m args meth cD g cL_law 9 RL rt tb) (hX : va_X b L xs s s.heap) (hbl : b < s.heap.size) (hbA : ¬ xA g b) (hL : L ≤ 2560) (i n k q B : Nat) (hi : i + 5 ≤ L) (hB : B ≤ 512) (w : xw_T) (sz : Nat) (hI : LA g w sz n B) (hk : k + 256 ≤ 603072) (hq : q + 2500 ≤ 7202922) (kk : ∀ (w1 : xw_T) (sz1 n1 : Nat), LA g w1 sz1 n1 (B + 1) → xV p l e room_1 s m args below meth cD Q g 9 w1 sz1 (k + 256) (q + 2500) 1185 [(0, .ref b), (1, .ref (g.2 0)), (2, .ref (g.2 0 + 258)), (3, .ref (g.2 0 + 267)), (4, .ref (g.2 0 + 268)), (5, .int (nI i))] []) : xV p l e room_1 s m args below meth cD Q g 9 w sz k q 906 [(0, .ref b), (1, .ref (g.2 0)), (2, .ref (g.2 0 + 258)), (3, .ref (g.2 0 + 267)), (4, .ref (g.2 0 + 268)), (5, .int (nI i))] [] := by
  obtain ⟨⟨x, la, t, tt, vb, sg, LN, LF, tm, v, bf, sv, pa, lb, td, sm, c0, hc0, hC, hT, hM, hJ, hA⟩, hO, hD⟩ := hI
  refine x_aload_n 1 907 C0 dL_law_906 rfl rfl rfl ?_
  refine x_callV 910 C0 (f_X7_reachedIn l hl g w sz n x la t tt vb sg hC) dL_law_907 rfl mC_X7_reachedIn mM_L_200 mI_X7_reachedIn mV_X7_reachedIn mN_X7 yd_X7_reachedIn rfl rfl ⟨(Nat.le_of_ble_eq_true rfl), (Nat.le_of_ble_eq_true rfl)⟩ hC.1.1 rfl rfl rfl rfl (Nat.le_of_ble_eq_true rfl) ⟨by show k + 8 ≤ 603072; omega, by show q + 64 ≤ 7202922; omega⟩ (fun _ _ _ z => False.elim z) (fun r1 w1 sz1 _ hP1 => ?_)
  obtain ⟨⟨k1, rfl⟩, hC1, hF1, hz1⟩ := hP1
  have hM1 := hM.wf (hF1.wf (a := 267)) (Or.inl rfl) hC.zz
  have hT1 := hT.wf (hF1.wf (a := 267)) (Or.inl rfl) hz1
  have hO1 := hO.xf hF1 hC.zz
  have hD1 := hD.wf hF1.wf hC.zz
  refine x_st (st1 := [.int k1]) rfl ?_
  refine x_pop 911 C0 dL_law_910 rfl rfl ?_
  refine x_aload_n 2 912 C0 dL_law_911 rfl rfl rfl ?_
  refine x_callV 915 C0 (k_X8_reachedIn l hl g w1 sz1 n tm v bf sv pa lb sg td sm hM1 hJ) dL_law_912 rfl mC_X8_reachedIn mM_L_203 mI_X8_reachedIn mV_X8_reachedIn mN_X8 yd_X8_reachedIn rfl rfl ⟨(Nat.le_of_ble_eq_true rfl), (Nat.le_of_ble_eq_true rfl)⟩ hM1.o rfl rfl rfl rfl (Nat.le_of_ble_eq_true rfl) ⟨by show k + 8 + 0 ≤ 603072; omega, by show q + 64 + 0 ≤ 7202922; omega⟩ (fun _ _ _ z => False.elim z) (fun r2 w2 sz2 _ hP2 => ?_)
  obtain ⟨rfl, tm2, lb2, rfl, hJ2, hL2, hQ2⟩ := hP2
  obtain ⟨z2, rfl⟩ := hQ2
  have hall2 : AI g (MW g w1 tm2 v bf sv pa lb2 sg td sm) sz1 n (B + 1) := ⟨_, _, _, _, _, _, _, _, _, _, _, _, _, _, _, _, _, Nat.le_succ_of_le hc0, hC1.mw, hT1.mw, MR_MW, hJ2, (hA.tm (hL2 2 (by decide)) (hL2 7 (by decide)))⟩
  refine x_st (st1 := [.int z2]) rfl ?_
  refine x_pop 916 C0 dL_law_915 rfl rfl ?_
  refine x_goto 1185 C0 dL_law_916 (by decide) ?_
  exact x_widen (k + 256) (q + 2500) (by omega) (by omega) (x_lv [0, 1, 2, 3, 4, 5] rfl (kk _ _ _ ⟨hall2, hO1.mw, hD1.mw⟩))
set_option maxHeartbeats 4000000 in
set_option maxRecDepth 100000 in
theorem law_c22 (hl : l.stackTraces = false) (C0 : xC p l s m args meth cD g cL_law 9 RL rt tb) (hX : va_X b L xs s s.heap) (hbl : b < s.heap.size) (hbA : ¬ xA g b) (hL : L ≤ 2560) (i n k q B : Nat) (hi : i + 5 ≤ L) (hB : B ≤ 512) (w : xw_T) (sz : Nat) (hI : LA g w sz n B) (hk : k + 256 ≤ 603072) (hq : q + 2500 ≤ 7202922) (kk : ∀ (w1 : xw_T) (sz1 n1 : Nat), LA g w1 sz1 n1 (B + 1) → xV p l e room_1 s m args below meth cD Q g 9 w1 sz1 (k + 256) (q + 2500) 1185 [(0, .ref b), (1, .ref (g.2 0)), (2, .ref (g.2 0 + 258)), (3, .ref (g.2 0 + 267)), (4, .ref (g.2 0 + 268)), (5, .int (nI i))] []) : xV p l e room_1 s m args below meth cD Q g 9 w sz k q 919 [(0, .ref b), (1, .ref (g.2 0)), (2, .ref (g.2 0 + 258)), (3, .ref (g.2 0 + 267)), (4, .ref (g.2 0 + 268)), (5, .int (nI i))] [] := by
  obtain ⟨⟨x, la, t, tt, vb, sg, LN, LF, tm, v, bf, sv, pa, lb, td, sm, c0, hc0, hC, hT, hM, hJ, hA⟩, hO, hD⟩ := hI
  refine x_aload_n 1 920 C0 dL_law_919 rfl rfl rfl ?_
  refine x_aload_n 0 921 C0 dL_law_920 rfl rfl rfl ?_
  refine x_iload 5 923 C0 dL_law_921 rfl rfl ?_
  refine x_iconst (v := 1) 924 C0 dL_law_923 rfl (by decide) ?_
  refine x_iadd 925 C0 dL_law_924 rfl ?_
  refine x_st (st1 := [.int (nI (i + 1)), .ref b, .ref (g.2 0)]) (congrArg (fun z => Value.int z :: _) (nI_add i 1)) ?_
  refine x_sld 926 C0 hX hbl hbA (vp_in_nI (n := i + 1) (by omega) (by omega)) dL_law_925 rfl ?_
  refine x_aload_n 3 927 C0 dL_law_926 rfl rfl rfl ?_
  refine x_callSH 930 C0 (e_L_setHumidity l hl g w sz n x la t tt vb sg hC hO ((xs (nI (i + 1)).toNatClampNeg))) dL_law_927 rfl mC_L_setHumidity mM_L_204 mS_L_setHumidity mN_L yd_L_setHumidity rfl rfl ⟨(Nat.le_of_ble_eq_true rfl), (Nat.le_of_ble_eq_true rfl)⟩ rfl rfl (Nat.le_of_ble_eq_true rfl) ⟨by show k + 8 ≤ 603072; omega, by show q + 64 ≤ 7202922; omega⟩ (fun _ _ _ z => False.elim z) (fun r1 w1 sz1 _ hP1 => ?_)
  obtain ⟨k1, x1, la1, t1, rfl, hz1, hF1, hC1, hd1⟩ := hP1
  have hO1 : wO g w1 := by
    rcases hd1 with ⟨-, v9, f9, -, h9, -⟩ | ⟨h9, -⟩
    · exact ⟨f9, h9⟩
    · exact h9
  have hM1 := hM.wf hF1 (Or.inl rfl) hC.zz
  have hT1 := hT.wf hF1 (Or.inl rfl) hz1
  have hD1 := hD.wf hF1 hC.zz
  refine x_st (st1 := [.int k1]) rfl ?_
  refine x_istore [(6, .int k1), (0, .ref b), (1, .ref (g.2 0)), (2, .ref (g.2 0 + 258)), (3, .ref (g.2 0 + 267)), (4, .ref (g.2 0 + 268)), (5, .int (nI i))] 932 C0 dL_law_930 rfl (by decide) rfl ?_
  refine x_aload_n 3 933 C0 dL_law_932 rfl rfl rfl ?_
  refine x_aload_n 1 934 C0 dL_law_933 rfl rfl rfl ?_
  refine x_iload 6 936 C0 dL_law_934 rfl rfl ?_
  refine x_iconst (v := 1) 937 C0 dL_law_936 rfl (by decide) ?_
  refine x_iadd 938 C0 dL_law_937 rfl ?_
  refine x_st (st1 := [.int (nI (i + 1)), .ref b, .ref (g.2 0 + 258)]) (congrArg (fun z => Value.int z :: _) (nI_add i 1)) ?_
  refine x_sld 939 C0 hX hbl hbA (vp_in_nI (n := i + 1) (by omega) (by omega)) dL_law_938 rfl ?_
  refine x_callV 942 C0 (k_X8_setHumidity l hl g w1 sz1 n tm v bf sv pa lb sg td sm hM1 hJ ((xs (nI (i + 1)).toNatClampNeg))) dL_law_939 rfl mC_X8_setHumidity mM_L_206 mI_X8_setHumidity mV_X8_setHumidity mN_X8 yd_X8_setHumidity rfl rfl ⟨(Nat.le_of_ble_eq_true rfl), (Nat.le_of_ble_eq_true rfl)⟩ hM1.o rfl rfl rfl rfl (Nat.le_of_ble_eq_true rfl) ⟨by show k + 8 + 0 ≤ 603072; omega, by show q + 64 + 0 ≤ 7202922; omega⟩ (fun _ _ _ z => False.elim z) (fun r2 w2 sz2 _ hP2 => ?_)
  obtain ⟨rfl, tm2, v2, bf2, pa2, lb2, rfl, hJ2, h72, hQ2⟩ := hP2
  obtain ⟨z2, rfl⟩ := cP_r hQ2
  have hall2 : AI g (MW g w1 tm2 v2 bf2 sv pa2 lb2 sg td sm) sz1 n (B + 1) := by
    rcases hd1 with ⟨hk9, v9, f9, hL9, ho9, hf9⟩ | ⟨-, E9, hX9, hk9⟩
    · obtain ⟨hr9, hz9, c9, LN9, LF9, hc9, hT9, hA9⟩ := al_setHumidity_y ((xs (nI (i + 1)).toNatClampNeg)) hA hT1 hC.k0 (by omega) h72 hQ2 hL9
      exact ⟨_, _, _, _, _, _, _, _, _, _, _, _, _, _, _, _, _, Nat.le_trans hc9 (by omega), hC1.mw, hT9.mw, MR_MW, hJ2, hA9⟩
    · obtain ⟨hz9, c9, LN9, LF9, hc9, hT9, hA9⟩ := al_setHumidity_n ((xs (nI (i + 1)).toNatClampNeg)) hA hT1 hC.k0 (by omega) h72 hQ2 hX9
      exact ⟨_, _, _, _, _, _, _, _, _, _, _, _, _, _, _, _, _, Nat.le_trans hc9 (by omega), hC1.mw, hT9.mw, MR_MW, hJ2, hA9⟩
  refine x_st (st1 := [.int z2]) rfl ?_
  refine x_istore [(7, .int z2), (6, .int k1), (0, .ref b), (1, .ref (g.2 0)), (2, .ref (g.2 0 + 258)), (3, .ref (g.2 0 + 267)), (4, .ref (g.2 0 + 268)), (5, .int (nI i))] 944 C0 dL_law_942 rfl (by decide) rfl ?_
  refine x_goto 1185 C0 dL_law_944 (by decide) ?_
  exact x_widen (k + 256) (q + 2500) (by omega) (by omega) (x_lv [2, 3, 4, 5, 6, 7] rfl (kk _ _ _ ⟨hall2, hO1.mw, hD1.mw⟩))
set_option maxHeartbeats 4000000 in
set_option maxRecDepth 100000 in
theorem law_c23 (hl : l.stackTraces = false) (C0 : xC p l s m args meth cD g cL_law 9 RL rt tb) (hX : va_X b L xs s s.heap) (hbl : b < s.heap.size) (hbA : ¬ xA g b) (hL : L ≤ 2560) (i n k q B : Nat) (hi : i + 5 ≤ L) (hB : B ≤ 512) (w : xw_T) (sz : Nat) (hI : LA g w sz n B) (hk : k + 256 ≤ 603072) (hq : q + 2500 ≤ 7202922) (kk : ∀ (w1 : xw_T) (sz1 n1 : Nat), LA g w1 sz1 n1 (B + 1) → xV p l e room_1 s m args below meth cD Q g 9 w1 sz1 (k + 256) (q + 2500) 1185 [(0, .ref b), (1, .ref (g.2 0)), (2, .ref (g.2 0 + 258)), (3, .ref (g.2 0 + 267)), (4, .ref (g.2 0 + 268)), (5, .int (nI i))] []) : xV p l e room_1 s m args below meth cD Q g 9 w sz k q 947 [(0, .ref b), (1, .ref (g.2 0)), (2, .ref (g.2 0 + 258)), (3, .ref (g.2 0 + 267)), (4, .ref (g.2 0 + 268)), (5, .int (nI i))] [] := by
  obtain ⟨⟨x, la, t, tt, vb, sg, LN, LF, tm, v, bf, sv, pa, lb, td, sm, c0, hc0, hC, hT, hM, hJ, hA⟩, hO, hD⟩ := hI
  refine x_aload_n 1 948 C0 dL_law_947 rfl rfl rfl ?_
  refine x_aload_n 0 949 C0 dL_law_948 rfl rfl rfl ?_
  refine x_iload 5 951 C0 dL_law_949 rfl rfl ?_
  refine x_iconst (v := 1) 952 C0 dL_law_951 rfl (by decide) ?_
  refine x_iadd 953 C0 dL_law_952 rfl ?_
  refine x_st (st1 := [.int (nI (i + 1)), .ref b, .ref (g.2 0)]) (congrArg (fun z => Value.int z :: _) (nI_add i 1)) ?_
  refine x_sld 954 C0 hX hbl hbA (vp_in_nI (n := i + 1) (by omega) (by omega)) dL_law_953 rfl ?_
  refine x_aload_n 3 955 C0 dL_law_954 rfl rfl rfl ?_
  refine x_callSH 958 C0 (e_L_pass l hl g w sz n x la t tt vb sg hC hO ((xs (nI (i + 1)).toNatClampNeg))) dL_law_955 rfl mC_L_pass mM_L_207 mS_L_pass mN_L yd_L_pass rfl rfl ⟨(Nat.le_of_ble_eq_true rfl), (Nat.le_of_ble_eq_true rfl)⟩ rfl rfl (Nat.le_of_ble_eq_true rfl) ⟨by show k + 8 ≤ 603072; omega, by show q + 64 ≤ 7202922; omega⟩ (fun _ _ _ z => False.elim z) (fun r1 w1 sz1 _ hP1 => ?_)
  obtain ⟨k1, x1, la1, t1, rfl, hz1, hF1, hC1, hd1⟩ := hP1
  have hO1 : wO g w1 := by
    rcases hd1 with ⟨-, v9, f9, -, h9, -⟩ | ⟨h9, -⟩
    · exact ⟨f9, h9⟩
    · exact h9
  have hM1 := hM.wf hF1 (Or.inl rfl) hC.zz
  have hT1 := hT.wf hF1 (Or.inl rfl) hz1
  have hD1 := hD.wf hF1 hC.zz
  refine x_st (st1 := [.int k1]) rfl ?_
  refine x_istore [(6, .int k1), (0, .ref b), (1, .ref (g.2 0)), (2, .ref (g.2 0 + 258)), (3, .ref (g.2 0 + 267)), (4, .ref (g.2 0 + 268)), (5, .int (nI i))] 960 C0 dL_law_958 rfl (by decide) rfl ?_
  refine x_aload_n 3 961 C0 dL_law_960 rfl rfl rfl ?_
  refine x_aload_n 1 962 C0 dL_law_961 rfl rfl rfl ?_
  refine x_iload 6 964 C0 dL_law_962 rfl rfl ?_
  refine x_iconst (v := 1) 965 C0 dL_law_964 rfl (by decide) ?_
  refine x_iadd 966 C0 dL_law_965 rfl ?_
  refine x_st (st1 := [.int (nI (i + 1)), .ref b, .ref (g.2 0 + 258)]) (congrArg (fun z => Value.int z :: _) (nI_add i 1)) ?_
  refine x_sld 967 C0 hX hbl hbA (vp_in_nI (n := i + 1) (by omega) (by omega)) dL_law_966 rfl ?_
  refine x_callV 970 C0 (k_X8_pass l hl g w1 sz1 n tm v bf sv pa lb sg td sm hM1 hJ ((xs (nI (i + 1)).toNatClampNeg))) dL_law_967 rfl mC_X8_pass mM_L_209 mI_X8_pass mV_X8_pass mN_X8 yd_X8_pass rfl rfl ⟨(Nat.le_of_ble_eq_true rfl), (Nat.le_of_ble_eq_true rfl)⟩ hM1.o rfl rfl rfl rfl (Nat.le_of_ble_eq_true rfl) ⟨by show k + 8 + 0 ≤ 603072; omega, by show q + 64 + 0 ≤ 7202922; omega⟩ (fun _ _ _ z => False.elim z) (fun r2 w2 sz2 _ hP2 => ?_)
  obtain ⟨rfl, tm2, v2, bf2, pa2, lb2, rfl, hJ2, h72, hQ2⟩ := hP2
  obtain ⟨z2, rfl⟩ := cP_r hQ2
  have hall2 : AI g (MW g w1 tm2 v2 bf2 sv pa2 lb2 sg td sm) sz1 n (B + 1) := by
    rcases hd1 with ⟨hk9, v9, f9, hL9, ho9, hf9⟩ | ⟨-, E9, hX9, hk9⟩
    · obtain ⟨hr9, hz9, c9, LN9, LF9, hc9, hT9, hA9⟩ := al_pass_y ((xs (nI (i + 1)).toNatClampNeg)) hA hT1 hC.k0 (by omega) h72 hQ2 hL9
      exact ⟨_, _, _, _, _, _, _, _, _, _, _, _, _, _, _, _, _, Nat.le_trans hc9 (by omega), hC1.mw, hT9.mw, MR_MW, hJ2, hA9⟩
    · obtain ⟨hz9, c9, LN9, LF9, hc9, hT9, hA9⟩ := al_pass_n ((xs (nI (i + 1)).toNatClampNeg)) hA hT1 hC.k0 (by omega) h72 hQ2 hX9
      exact ⟨_, _, _, _, _, _, _, _, _, _, _, _, _, _, _, _, _, Nat.le_trans hc9 (by omega), hC1.mw, hT9.mw, MR_MW, hJ2, hA9⟩
  refine x_st (st1 := [.int z2]) rfl ?_
  refine x_istore [(7, .int z2), (6, .int k1), (0, .ref b), (1, .ref (g.2 0)), (2, .ref (g.2 0 + 258)), (3, .ref (g.2 0 + 267)), (4, .ref (g.2 0 + 268)), (5, .int (nI i))] 972 C0 dL_law_970 rfl (by decide) rfl ?_
  refine x_goto 1185 C0 dL_law_972 (by decide) ?_
  exact x_widen (k + 256) (q + 2500) (by omega) (by omega) (x_lv [2, 3, 4, 5, 6, 7] rfl (kk _ _ _ ⟨hall2, hO1.mw, hD1.mw⟩))
set_option maxHeartbeats 4000000 in
set_option maxRecDepth 100000 in
theorem law_c24 (hl : l.stackTraces = false) (C0 : xC p l s m args meth cD g cL_law 9 RL rt tb) (hX : va_X b L xs s s.heap) (hbl : b < s.heap.size) (hbA : ¬ xA g b) (hL : L ≤ 2560) (i n k q B : Nat) (hi : i + 5 ≤ L) (hB : B ≤ 512) (w : xw_T) (sz : Nat) (hI : LA g w sz n B) (hk : k + 256 ≤ 603072) (hq : q + 2500 ≤ 7202922) (kk : ∀ (w1 : xw_T) (sz1 n1 : Nat), LA g w1 sz1 n1 (B + 1) → xV p l e room_1 s m args below meth cD Q g 9 w1 sz1 (k + 256) (q + 2500) 1185 [(0, .ref b), (1, .ref (g.2 0)), (2, .ref (g.2 0 + 258)), (3, .ref (g.2 0 + 267)), (4, .ref (g.2 0 + 268)), (5, .int (nI i))] []) : xV p l e room_1 s m args below meth cD Q g 9 w sz k q 975 [(0, .ref b), (1, .ref (g.2 0)), (2, .ref (g.2 0 + 258)), (3, .ref (g.2 0 + 267)), (4, .ref (g.2 0 + 268)), (5, .int (nI i))] [] := by
  obtain ⟨⟨x, la, t, tt, vb, sg, LN, LF, tm, v, bf, sv, pa, lb, td, sm, c0, hc0, hC, hT, hM, hJ, hA⟩, hO, hD⟩ := hI
  refine x_aload_n 1 976 C0 dL_law_975 rfl rfl rfl ?_
  refine x_callV 979 C0 (f_X7_isWell l hl g w sz n x la t tt vb sg hC) dL_law_976 rfl mC_X7_isWell mM_L_210 mI_X7_isWell mV_X7_isWell mN_X7 yd_X7_isWell rfl rfl ⟨(Nat.le_of_ble_eq_true rfl), (Nat.le_of_ble_eq_true rfl)⟩ hC.1.1 rfl rfl rfl rfl (Nat.le_of_ble_eq_true rfl) ⟨by show k + 8 ≤ 603072; omega, by show q + 64 ≤ 7202922; omega⟩ (fun _ _ _ z => False.elim z) (fun r1 w1 sz1 _ hP1 => ?_)
  obtain ⟨⟨k1, rfl⟩, hC1, hF1, hz1⟩ := hP1
  have hM1 := hM.wf (hF1.wf (a := 267)) (Or.inl rfl) hC.zz
  have hT1 := hT.wf (hF1.wf (a := 267)) (Or.inl rfl) hz1
  have hO1 := hO.xf hF1 hC.zz
  have hD1 := hD.wf hF1.wf hC.zz
  refine x_st (st1 := [.int k1]) rfl ?_
  refine x_pop 980 C0 dL_law_979 rfl rfl ?_
  refine x_aload_n 2 981 C0 dL_law_980 rfl rfl rfl ?_
  refine x_callV 984 C0 (k_X8_isWell l hl g w1 sz1 n tm v bf sv pa lb sg td sm hM1 hJ) dL_law_981 rfl mC_X8_isWell mM_L_214 mI_X8_isWell mV_X8_isWell mN_X8 yd_X8_isWell rfl rfl ⟨(Nat.le_of_ble_eq_true rfl), (Nat.le_of_ble_eq_true rfl)⟩ hM1.o rfl rfl rfl rfl (Nat.le_of_ble_eq_true rfl) ⟨by show k + 8 + 0 ≤ 603072; omega, by show q + 64 + 0 ≤ 7202922; omega⟩ (fun _ _ _ z => False.elim z) (fun r2 w2 sz2 _ hP2 => ?_)
  obtain ⟨rfl, tm2, lb2, rfl, hJ2, hL2, hQ2⟩ := hP2
  obtain ⟨z2, rfl⟩ := hQ2
  have hall2 : AI g (MW g w1 tm2 v bf sv pa lb2 sg td sm) sz1 n (B + 1) := ⟨_, _, _, _, _, _, _, _, _, _, _, _, _, _, _, _, _, Nat.le_succ_of_le hc0, hC1.mw, hT1.mw, MR_MW, hJ2, (hA.tm (hL2 2 (by decide)) (hL2 7 (by decide)))⟩
  refine x_st (st1 := [.int z2]) rfl ?_
  refine x_pop 985 C0 dL_law_984 rfl rfl ?_
  refine x_goto 1185 C0 dL_law_985 (by decide) ?_
  exact x_widen (k + 256) (q + 2500) (by omega) (by omega) (x_lv [0, 1, 2, 3, 4, 5] rfl (kk _ _ _ ⟨hall2, hO1.mw, hD1.mw⟩))
set_option maxHeartbeats 4000000 in
set_option maxRecDepth 100000 in
theorem law_c25 (hl : l.stackTraces = false) (C0 : xC p l s m args meth cD g cL_law 9 RL rt tb) (hX : va_X b L xs s s.heap) (hbl : b < s.heap.size) (hbA : ¬ xA g b) (hL : L ≤ 2560) (i n k q B : Nat) (hi : i + 5 ≤ L) (hB : B ≤ 512) (w : xw_T) (sz : Nat) (hI : LA g w sz n B) (hk : k + 256 ≤ 603072) (hq : q + 2500 ≤ 7202922) (kk : ∀ (w1 : xw_T) (sz1 n1 : Nat), LA g w1 sz1 n1 (B + 1) → xV p l e room_1 s m args below meth cD Q g 9 w1 sz1 (k + 256) (q + 2500) 1185 [(0, .ref b), (1, .ref (g.2 0)), (2, .ref (g.2 0 + 258)), (3, .ref (g.2 0 + 267)), (4, .ref (g.2 0 + 268)), (5, .int (nI i))] []) : xV p l e room_1 s m args below meth cD Q g 9 w sz k q 988 [(0, .ref b), (1, .ref (g.2 0)), (2, .ref (g.2 0 + 258)), (3, .ref (g.2 0 + 267)), (4, .ref (g.2 0 + 268)), (5, .int (nI i))] [] := by
  obtain ⟨⟨x, la, t, tt, vb, sg, LN, LF, tm, v, bf, sv, pa, lb, td, sm, c0, hc0, hC, hT, hM, hJ, hA⟩, hO, hD⟩ := hI
  refine x_aload_n 1 989 C0 dL_law_988 rfl rfl rfl ?_
  refine x_aload 4 991 C0 dL_law_989 rfl rfl ?_
  refine x_callSH 994 C0 (e_L_meanDamp l hl g w sz n x la t tt vb sg hC hD) dL_law_991 rfl mC_L_meanDamp mM_L_215 mS_L_meanDamp mN_L yd_L_meanDamp rfl rfl ⟨(Nat.le_of_ble_eq_true rfl), (Nat.le_of_ble_eq_true rfl)⟩ rfl rfl (Nat.le_of_ble_eq_true rfl) ⟨by show k + 8 ≤ 603072; omega, by show q + 64 ≤ 7202922; omega⟩ (fun _ _ _ z => False.elim z) (fun r1 w1 sz1 _ hP1 => ?_)
  obtain ⟨⟨k1, rfl⟩, hz1, hF1, hD1, hC1⟩ := hP1
  have hM1 := hM.wf hF1 (Or.inr rfl) hC.zz
  have hT1 := hT.wf hF1 (Or.inr rfl) hz1
  have hO1 := hO.wf hF1 hC.zz
  refine x_st (st1 := [.int k1]) rfl ?_
  refine x_istore [(6, .int k1), (0, .ref b), (1, .ref (g.2 0)), (2, .ref (g.2 0 + 258)), (3, .ref (g.2 0 + 267)), (4, .ref (g.2 0 + 268)), (5, .int (nI i))] 996 C0 dL_law_994 rfl (by decide) rfl ?_
  refine x_aload_n 3 997 C0 dL_law_996 rfl rfl rfl ?_
  refine x_callV 1000 C0 (k_X8_meanDamp l hl g w1 sz1 n tm v bf sv pa lb sg td sm hM1 hJ) dL_law_997 rfl mC_X8_meanDamp mM_L_218 mI_X8_meanDamp mV_X8_meanDamp mN_X8 yd_X8_meanDamp rfl rfl ⟨(Nat.le_of_ble_eq_true rfl), (Nat.le_of_ble_eq_true rfl)⟩ hM1.o rfl rfl rfl rfl (Nat.le_of_ble_eq_true rfl) ⟨by show k + 8 + 0 ≤ 603072; omega, by show q + 64 + 0 ≤ 7202922; omega⟩ (fun _ _ _ z => False.elim z) (fun r2 w2 sz2 _ hP2 => ?_)
  obtain ⟨rfl, tm2, lb2, rfl, hJ2, hL2, hQ2⟩ := hP2
  obtain ⟨z2, rfl⟩ := hQ2
  have hall2 : AI g (MW g w1 tm2 v bf sv pa lb2 sg td sm) sz1 n (B + 1) := ⟨_, _, _, _, _, _, _, _, _, _, _, _, _, _, _, _, _, Nat.le_succ_of_le hc0, hC1.mw, hT1.mw, MR_MW, hJ2, (hA.tm (hL2 2 (by decide)) (hL2 7 (by decide)))⟩
  refine x_st (st1 := [.double z2]) rfl ?_
  refine x_dstore [(7, .double z2), (6, .int k1), (0, .ref b), (1, .ref (g.2 0)), (2, .ref (g.2 0 + 258)), (3, .ref (g.2 0 + 267)), (4, .ref (g.2 0 + 268)), (5, .int (nI i))] 1002 C0 dL_law_1000 rfl (by decide) rfl ?_
  refine x_goto 1185 C0 dL_law_1002 (by decide) ?_
  exact x_widen (k + 256) (q + 2500) (by omega) (by omega) (x_lv [2, 3, 4, 5, 6, 7] rfl (kk _ _ _ ⟨hall2, hO1.mw, hD1.mw⟩))
set_option maxHeartbeats 4000000 in
set_option maxRecDepth 100000 in
theorem law_c26 (hl : l.stackTraces = false) (C0 : xC p l s m args meth cD g cL_law 9 RL rt tb) (hX : va_X b L xs s s.heap) (hbl : b < s.heap.size) (hbA : ¬ xA g b) (hL : L ≤ 2560) (i n k q B : Nat) (hi : i + 5 ≤ L) (hB : B ≤ 512) (w : xw_T) (sz : Nat) (hI : LA g w sz n B) (hk : k + 256 ≤ 603072) (hq : q + 2500 ≤ 7202922) (kk : ∀ (w1 : xw_T) (sz1 n1 : Nat), LA g w1 sz1 n1 (B + 1) → xV p l e room_1 s m args below meth cD Q g 9 w1 sz1 (k + 256) (q + 2500) 1185 [(0, .ref b), (1, .ref (g.2 0)), (2, .ref (g.2 0 + 258)), (3, .ref (g.2 0 + 267)), (4, .ref (g.2 0 + 268)), (5, .int (nI i))] []) : xV p l e room_1 s m args below meth cD Q g 9 w sz k q 1005 [(0, .ref b), (1, .ref (g.2 0)), (2, .ref (g.2 0 + 258)), (3, .ref (g.2 0 + 267)), (4, .ref (g.2 0 + 268)), (5, .int (nI i))] [] := by
  obtain ⟨⟨x, la, t, tt, vb, sg, LN, LF, tm, v, bf, sv, pa, lb, td, sm, c0, hc0, hC, hT, hM, hJ, hA⟩, hO, hD⟩ := hI
  refine x_aload_n 1 1006 C0 dL_law_1005 rfl rfl rfl ?_
  refine x_aload 4 1008 C0 dL_law_1006 rfl rfl ?_
  refine x_callSH 1011 C0 (e_L_sailedShare l hl g w sz n x la t tt vb sg hC hD) dL_law_1008 rfl mC_L_sailedShare mM_L_219 mS_L_sailedShare mN_L yd_L_sailedShare rfl rfl ⟨(Nat.le_of_ble_eq_true rfl), (Nat.le_of_ble_eq_true rfl)⟩ rfl rfl (Nat.le_of_ble_eq_true rfl) ⟨by show k + 8 ≤ 603072; omega, by show q + 64 ≤ 7202922; omega⟩ (fun _ _ _ z => False.elim z) (fun r1 w1 sz1 _ hP1 => ?_)
  obtain ⟨⟨k1, rfl⟩, hz1, hF1, hD1, hC1⟩ := hP1
  have hM1 := hM.wf hF1 (Or.inr rfl) hC.zz
  have hT1 := hT.wf hF1 (Or.inr rfl) hz1
  have hO1 := hO.wf hF1 hC.zz
  refine x_st (st1 := [.int k1]) rfl ?_
  refine x_istore [(6, .int k1), (0, .ref b), (1, .ref (g.2 0)), (2, .ref (g.2 0 + 258)), (3, .ref (g.2 0 + 267)), (4, .ref (g.2 0 + 268)), (5, .int (nI i))] 1013 C0 dL_law_1011 rfl (by decide) rfl ?_
  refine x_aload_n 3 1014 C0 dL_law_1013 rfl rfl rfl ?_
  refine x_callV 1017 C0 (k_X8_sailedShare l hl g w1 sz1 n tm v bf sv pa lb sg td sm hM1 hJ) dL_law_1014 rfl mC_X8_sailedShare mM_L_221 mI_X8_sailedShare mV_X8_sailedShare mN_X8 yd_X8_sailedShare rfl rfl ⟨(Nat.le_of_ble_eq_true rfl), (Nat.le_of_ble_eq_true rfl)⟩ hM1.o rfl rfl rfl rfl (Nat.le_of_ble_eq_true rfl) ⟨by show k + 8 + 0 ≤ 603072; omega, by show q + 64 + 0 ≤ 7202922; omega⟩ (fun _ _ _ z => False.elim z) (fun r2 w2 sz2 _ hP2 => ?_)
  obtain ⟨rfl, tm2, lb2, rfl, hJ2, hL2, hQ2⟩ := hP2
  obtain ⟨z2, rfl⟩ := hQ2
  have hall2 : AI g (MW g w1 tm2 v bf sv pa lb2 sg td sm) sz1 n (B + 1) := ⟨_, _, _, _, _, _, _, _, _, _, _, _, _, _, _, _, _, Nat.le_succ_of_le hc0, hC1.mw, hT1.mw, MR_MW, hJ2, (hA.tm (hL2 2 (by decide)) (hL2 7 (by decide)))⟩
  refine x_st (st1 := [.float z2]) rfl ?_
  refine x_fstore [(7, .float z2), (6, .int k1), (0, .ref b), (1, .ref (g.2 0)), (2, .ref (g.2 0 + 258)), (3, .ref (g.2 0 + 267)), (4, .ref (g.2 0 + 268)), (5, .int (nI i))] 1019 C0 dL_law_1017 rfl (by decide) rfl ?_
  refine x_goto 1185 C0 dL_law_1019 (by decide) ?_
  exact x_widen (k + 256) (q + 2500) (by omega) (by omega) (x_lv [2, 3, 4, 5, 6, 7] rfl (kk _ _ _ ⟨hall2, hO1.mw, hD1.mw⟩))
set_option maxHeartbeats 4000000 in
set_option maxRecDepth 100000 in
theorem law_c27 (hl : l.stackTraces = false) (C0 : xC p l s m args meth cD g cL_law 9 RL rt tb) (hX : va_X b L xs s s.heap) (hbl : b < s.heap.size) (hbA : ¬ xA g b) (hL : L ≤ 2560) (i n k q B : Nat) (hi : i + 5 ≤ L) (hB : B ≤ 512) (w : xw_T) (sz : Nat) (hI : LA g w sz n B) (hk : k + 256 ≤ 603072) (hq : q + 2500 ≤ 7202922) (kk : ∀ (w1 : xw_T) (sz1 n1 : Nat), LA g w1 sz1 n1 (B + 1) → xV p l e room_1 s m args below meth cD Q g 9 w1 sz1 (k + 256) (q + 2500) 1185 [(0, .ref b), (1, .ref (g.2 0)), (2, .ref (g.2 0 + 258)), (3, .ref (g.2 0 + 267)), (4, .ref (g.2 0 + 268)), (5, .int (nI i))] []) : xV p l e room_1 s m args below meth cD Q g 9 w sz k q 1022 [(0, .ref b), (1, .ref (g.2 0)), (2, .ref (g.2 0 + 258)), (3, .ref (g.2 0 + 267)), (4, .ref (g.2 0 + 268)), (5, .int (nI i))] [] := by
  obtain ⟨⟨x, la, t, tt, vb, sg, LN, LF, tm, v, bf, sv, pa, lb, td, sm, c0, hc0, hC, hT, hM, hJ, hA⟩, hO, hD⟩ := hI
  refine x_aload_n 1 1023 C0 dL_law_1022 rfl rfl rfl ?_
  refine x_aload_n 0 1024 C0 dL_law_1023 rfl rfl rfl ?_
  refine x_iload 5 1026 C0 dL_law_1024 rfl rfl ?_
  refine x_iconst (v := 1) 1027 C0 dL_law_1026 rfl (by decide) ?_
  refine x_iadd 1028 C0 dL_law_1027 rfl ?_
  refine x_st (st1 := [.int (nI (i + 1)), .ref b, .ref (g.2 0)]) (congrArg (fun z => Value.int z :: _) (nI_add i 1)) ?_
  refine x_sld 1029 C0 hX hbl hbA (vp_in_nI (n := i + 1) (by omega) (by omega)) dL_law_1028 rfl ?_
  refine x_if_eq 1036 1032 C0 dL_law_1029 rfl (by decide) (fun hb1 => ?_) (fun hb1 => ?_)
  · refine x_iconst (v := 0) 1037 C0 dL_law_1036 rfl (by decide) ?_
    refine x_aload_n 3 1038 C0 dL_law_1037 rfl rfl rfl ?_
    refine x_callSH 1041 C0 (e_L_reason l hl g w sz n x la t tt vb sg hC hO (0)) dL_law_1038 rfl mC_L_reason mM_L_222 mS_L_reason mN_L yd_L_reason rfl rfl ⟨(Nat.le_of_ble_eq_true rfl), (Nat.le_of_ble_eq_true rfl)⟩ rfl rfl (Nat.le_of_ble_eq_true rfl) ⟨by show k + 8 ≤ 603072; omega, by show q + 64 ≤ 7202922; omega⟩ (fun _ _ _ z => False.elim z) (fun r2 w2 sz2 _ hP2 => ?_)
    obtain ⟨k2, x2, la2, t2, rfl, hz2, hF2, hC2, hd2⟩ := hP2
    have hO2 : wO g w2 := by
      rcases hd2 with ⟨-, v9, f9, -, h9, -⟩ | ⟨h9, -⟩
      · exact ⟨f9, h9⟩
      · exact h9
    have hM2 := hM.wf hF2 (Or.inl rfl) hC.zz
    have hT2 := hT.wf hF2 (Or.inl rfl) hz2
    have hD2 := hD.wf hF2 hC.zz
    refine x_st (st1 := [.int k2]) rfl ?_
    refine x_istore [(6, .int k2), (0, .ref b), (1, .ref (g.2 0)), (2, .ref (g.2 0 + 258)), (3, .ref (g.2 0 + 267)), (4, .ref (g.2 0 + 268)), (5, .int (nI i))] 1043 C0 dL_law_1041 rfl (by decide) rfl ?_
    refine x_aload_n 3 1044 C0 dL_law_1043 rfl rfl rfl ?_
    refine x_aload_n 1 1045 C0 dL_law_1044 rfl rfl rfl ?_
    refine x_iload 6 1047 C0 dL_law_1045 rfl rfl ?_
    refine x_iconst (v := 1) 1048 C0 dL_law_1047 rfl (by decide) ?_
    refine x_iadd 1049 C0 dL_law_1048 rfl ?_
    refine x_st (st1 := [.int (nI (i + 1)), .ref b, .ref (g.2 0 + 258)]) (congrArg (fun z => Value.int z :: _) (nI_add i 1)) ?_
    refine x_sld 1050 C0 hX hbl hbA (vp_in_nI (n := i + 1) (by omega) (by omega)) dL_law_1049 rfl ?_
    refine x_if_eq 1057 1053 C0 dL_law_1050 rfl (by decide) (fun _ => ?_) (fun z => absurd hb1 z)
    refine x_iconst (v := 0) 1058 C0 dL_law_1057 rfl (by decide) ?_
    refine x_callV 1061 C0 (k_X8_reason l hl g w2 sz2 n tm v bf sv pa lb sg td sm hM2 hJ (0)) dL_law_1058 rfl mC_X8_reason mM_L_225 mI_X8_reason mV_X8_reason mN_X8 yd_X8_reason rfl rfl ⟨(Nat.le_of_ble_eq_true rfl), (Nat.le_of_ble_eq_true rfl)⟩ hM2.o rfl rfl rfl rfl (Nat.le_of_ble_eq_true rfl) ⟨by show k + 8 + 0 ≤ 603072; omega, by show q + 64 + 0 ≤ 7202922; omega⟩ (fun _ _ _ z => False.elim z) (fun r3 w3 sz3 _ hP3 => ?_)
    obtain ⟨rfl, tm3, lb3, rfl, hJ3, hL3, hQ3⟩ := hP3
    obtain ⟨⟨z3, rfl⟩, hQ3⟩ := hQ3
    have hall3 : AI g (MW g w2 tm3 v bf sv pa lb3 sg td sm) sz2 n (B + 1) := by
      rcases hd2 with ⟨hk9, v9, f9, hL9, ho9, hf9⟩ | ⟨-, E9, hX9, hk9⟩
      · obtain ⟨-, rfl, rfl, rfl⟩ := hL9
        exact ⟨_, _, _, _, _, _, _, _, _, _, _, _, _, _, _, _, _, Nat.le_succ_of_le hc0, hC2.mw, hT2.mw, MR_MW, hJ3, (hA.tm (hL3 2 (by decide)) (hL3 7 (by decide)))⟩
      · obtain ⟨-, rfl, rfl, rfl⟩ := hX9
        exact ⟨_, _, _, _, _, _, _, _, _, _, _, _, _, _, _, _, _, Nat.le_succ_of_le hc0, hC2.mw, hT2.mw, MR_MW, hJ3, (hA.tm (hL3 2 (by decide)) (hL3 7 (by decide)))⟩
    refine x_st (st1 := [.int z3]) rfl ?_
    refine x_istore [(7, .int z3), (6, .int k2), (0, .ref b), (1, .ref (g.2 0)), (2, .ref (g.2 0 + 258)), (3, .ref (g.2 0 + 267)), (4, .ref (g.2 0 + 268)), (5, .int (nI i))] 1063 C0 dL_law_1061 rfl (by decide) rfl ?_
    refine x_goto 1185 C0 dL_law_1063 (by decide) ?_
    exact x_widen (k + 256) (q + 2500) (by omega) (by omega) (x_lv [2, 3, 4, 5, 6, 7] rfl (kk _ _ _ ⟨hall3, hO2.mw, hD2.mw⟩))
  · refine x_iconst (v := 1) 1033 C0 dL_law_1032 rfl (by decide) ?_
    refine x_goto 1037 C0 dL_law_1033 (by decide) ?_
    refine x_aload_n 3 1038 C0 dL_law_1037 rfl rfl rfl ?_
    refine x_callSH 1041 C0 (e_L_reason l hl g w sz n x la t tt vb sg hC hO (1)) dL_law_1038 rfl mC_L_reason mM_L_222 mS_L_reason mN_L yd_L_reason rfl rfl ⟨(Nat.le_of_ble_eq_true rfl), (Nat.le_of_ble_eq_true rfl)⟩ rfl rfl (Nat.le_of_ble_eq_true rfl) ⟨by show k + 8 ≤ 603072; omega, by show q + 64 ≤ 7202922; omega⟩ (fun _ _ _ z => False.elim z) (fun r4 w4 sz4 _ hP4 => ?_)
    obtain ⟨k4, x4, la4, t4, rfl, hz4, hF4, hC4, hd4⟩ := hP4
    have hO4 : wO g w4 := by
      rcases hd4 with ⟨-, v9, f9, -, h9, -⟩ | ⟨h9, -⟩
      · exact ⟨f9, h9⟩
      · exact h9
    have hM4 := hM.wf hF4 (Or.inl rfl) hC.zz
    have hT4 := hT.wf hF4 (Or.inl rfl) hz4
    have hD4 := hD.wf hF4 hC.zz
    refine x_st (st1 := [.int k4]) rfl ?_
    refine x_istore [(6, .int k4), (0, .ref b), (1, .ref (g.2 0)), (2, .ref (g.2 0 + 258)), (3, .ref (g.2 0 + 267)), (4, .ref (g.2 0 + 268)), (5, .int (nI i))] 1043 C0 dL_law_1041 rfl (by decide) rfl ?_
    refine x_aload_n 3 1044 C0 dL_law_1043 rfl rfl rfl ?_
    refine x_aload_n 1 1045 C0 dL_law_1044 rfl rfl rfl ?_
    refine x_iload 6 1047 C0 dL_law_1045 rfl rfl ?_
    refine x_iconst (v := 1) 1048 C0 dL_law_1047 rfl (by decide) ?_
    refine x_iadd 1049 C0 dL_law_1048 rfl ?_
    refine x_st (st1 := [.int (nI (i + 1)), .ref b, .ref (g.2 0 + 258)]) (congrArg (fun z => Value.int z :: _) (nI_add i 1)) ?_
    refine x_sld 1050 C0 hX hbl hbA (vp_in_nI (n := i + 1) (by omega) (by omega)) dL_law_1049 rfl ?_
    refine x_if_eq 1057 1053 C0 dL_law_1050 rfl (by decide) (fun z => absurd z hb1) (fun _ => ?_)
    refine x_iconst (v := 1) 1054 C0 dL_law_1053 rfl (by decide) ?_
    refine x_goto 1058 C0 dL_law_1054 (by decide) ?_
    refine x_callV 1061 C0 (k_X8_reason l hl g w4 sz4 n tm v bf sv pa lb sg td sm hM4 hJ (1)) dL_law_1058 rfl mC_X8_reason mM_L_225 mI_X8_reason mV_X8_reason mN_X8 yd_X8_reason rfl rfl ⟨(Nat.le_of_ble_eq_true rfl), (Nat.le_of_ble_eq_true rfl)⟩ hM4.o rfl rfl rfl rfl (Nat.le_of_ble_eq_true rfl) ⟨by show k + 8 + 0 ≤ 603072; omega, by show q + 64 + 0 ≤ 7202922; omega⟩ (fun _ _ _ z => False.elim z) (fun r5 w5 sz5 _ hP5 => ?_)
    obtain ⟨rfl, tm5, lb5, rfl, hJ5, hL5, hQ5⟩ := hP5
    obtain ⟨⟨z5, rfl⟩, hQ5⟩ := hQ5
    have hall5 : AI g (MW g w4 tm5 v bf sv pa lb5 sg td sm) sz4 n (B + 1) := by
      rcases hd4 with ⟨hk9, v9, f9, hL9, ho9, hf9⟩ | ⟨-, E9, hX9, hk9⟩
      · obtain ⟨-, rfl, rfl, rfl⟩ := hL9
        exact ⟨_, _, _, _, _, _, _, _, _, _, _, _, _, _, _, _, _, Nat.le_succ_of_le hc0, hC4.mw, hT4.mw, MR_MW, hJ5, (hA.tm (hL5 2 (by decide)) (hL5 7 (by decide)))⟩
      · obtain ⟨-, rfl, rfl, rfl⟩ := hX9
        exact ⟨_, _, _, _, _, _, _, _, _, _, _, _, _, _, _, _, _, Nat.le_succ_of_le hc0, hC4.mw, hT4.mw, MR_MW, hJ5, (hA.tm (hL5 2 (by decide)) (hL5 7 (by decide)))⟩
    refine x_st (st1 := [.int z5]) rfl ?_
    refine x_istore [(7, .int z5), (6, .int k4), (0, .ref b), (1, .ref (g.2 0)), (2, .ref (g.2 0 + 258)), (3, .ref (g.2 0 + 267)), (4, .ref (g.2 0 + 268)), (5, .int (nI i))] 1063 C0 dL_law_1061 rfl (by decide) rfl ?_
    refine x_goto 1185 C0 dL_law_1063 (by decide) ?_
    exact x_widen (k + 256) (q + 2500) (by omega) (by omega) (x_lv [2, 3, 4, 5, 6, 7] rfl (kk _ _ _ ⟨hall5, hO4.mw, hD4.mw⟩))
set_option maxHeartbeats 4000000 in
set_option maxRecDepth 100000 in
theorem law_c28 (hl : l.stackTraces = false) (C0 : xC p l s m args meth cD g cL_law 9 RL rt tb) (hX : va_X b L xs s s.heap) (hbl : b < s.heap.size) (hbA : ¬ xA g b) (hL : L ≤ 2560) (i n k q B : Nat) (hi : i + 5 ≤ L) (hB : B ≤ 512) (w : xw_T) (sz : Nat) (hI : LA g w sz n B) (hk : k + 256 ≤ 603072) (hq : q + 2500 ≤ 7202922) (kk : ∀ (w1 : xw_T) (sz1 n1 : Nat), LA g w1 sz1 n1 (B + 1) → xV p l e room_1 s m args below meth cD Q g 9 w1 sz1 (k + 256) (q + 2500) 1185 [(0, .ref b), (1, .ref (g.2 0)), (2, .ref (g.2 0 + 258)), (3, .ref (g.2 0 + 267)), (4, .ref (g.2 0 + 268)), (5, .int (nI i))] []) : xV p l e room_1 s m args below meth cD Q g 9 w sz k q 1066 [(0, .ref b), (1, .ref (g.2 0)), (2, .ref (g.2 0 + 258)), (3, .ref (g.2 0 + 267)), (4, .ref (g.2 0 + 268)), (5, .int (nI i))] [] := by
  obtain ⟨⟨x, la, t, tt, vb, sg, LN, LF, tm, v, bf, sv, pa, lb, td, sm, c0, hc0, hC, hT, hM, hJ, hA⟩, hO, hD⟩ := hI
  refine x_aload_n 1 1067 C0 dL_law_1066 rfl rfl rfl ?_
  refine x_aload_n 0 1068 C0 dL_law_1067 rfl rfl rfl ?_
  refine x_iload 5 1070 C0 dL_law_1068 rfl rfl ?_
  refine x_iconst (v := 1) 1071 C0 dL_law_1070 rfl (by decide) ?_
  refine x_iadd 1072 C0 dL_law_1071 rfl ?_
  refine x_st (st1 := [.int (nI (i + 1)), .ref b, .ref (g.2 0)]) (congrArg (fun z => Value.int z :: _) (nI_add i 1)) ?_
  refine x_sld 1073 C0 hX hbl hbA (vp_in_nI (n := i + 1) (by omega) (by omega)) dL_law_1072 rfl ?_
  refine x_aload_n 3 1074 C0 dL_law_1073 rfl rfl rfl ?_
  refine x_callSH 1077 C0 (e_L_account l hl g w sz n x la t tt vb sg hC hO ((xs (nI (i + 1)).toNatClampNeg))) dL_law_1074 rfl mC_L_account mM_L_226 mS_L_account mN_L yd_L_account rfl rfl ⟨(Nat.le_of_ble_eq_true rfl), (Nat.le_of_ble_eq_true rfl)⟩ rfl rfl (Nat.le_of_ble_eq_true rfl) ⟨by show k + 8 ≤ 603072; omega, by show q + 64 ≤ 7202922; omega⟩ (fun _ _ _ z => False.elim z) (fun r1 w1 sz1 _ hP1 => ?_)
  obtain ⟨k1, x1, la1, t1, rfl, hz1, hF1, hC1, hd1⟩ := hP1
  have hO1 : wO g w1 := by
    rcases hd1 with ⟨-, v9, f9, -, h9, -⟩ | ⟨h9, -⟩
    · exact ⟨f9, h9⟩
    · exact h9
  have hM1 := hM.wf hF1 (Or.inl rfl) hC.zz
  have hT1 := hT.wf hF1 (Or.inl rfl) hz1
  have hD1 := hD.wf hF1 hC.zz
  refine x_st (st1 := [.int k1]) rfl ?_
  refine x_istore [(6, .int k1), (0, .ref b), (1, .ref (g.2 0)), (2, .ref (g.2 0 + 258)), (3, .ref (g.2 0 + 267)), (4, .ref (g.2 0 + 268)), (5, .int (nI i))] 1079 C0 dL_law_1077 rfl (by decide) rfl ?_
  refine x_aload_n 3 1080 C0 dL_law_1079 rfl rfl rfl ?_
  refine x_aload_n 1 1081 C0 dL_law_1080 rfl rfl rfl ?_
  refine x_iload 6 1083 C0 dL_law_1081 rfl rfl ?_
  refine x_iconst (v := 1) 1084 C0 dL_law_1083 rfl (by decide) ?_
  refine x_iadd 1085 C0 dL_law_1084 rfl ?_
  refine x_st (st1 := [.int (nI (i + 1)), .ref b, .ref (g.2 0 + 258)]) (congrArg (fun z => Value.int z :: _) (nI_add i 1)) ?_
  refine x_sld 1086 C0 hX hbl hbA (vp_in_nI (n := i + 1) (by omega) (by omega)) dL_law_1085 rfl ?_
  refine x_callV 1089 C0 (k_X8_account l hl g w1 sz1 n tm v bf sv pa lb sg td sm hM1 hJ ((xs (nI (i + 1)).toNatClampNeg))) dL_law_1086 rfl mC_X8_account mM_L_228 mI_X8_account mV_X8_account mN_X8 yd_X8_account rfl rfl ⟨(Nat.le_of_ble_eq_true rfl), (Nat.le_of_ble_eq_true rfl)⟩ hM1.o rfl rfl rfl rfl (Nat.le_of_ble_eq_true rfl) ⟨by show k + 8 + 0 ≤ 603072; omega, by show q + 64 + 0 ≤ 7202922; omega⟩ (fun _ _ _ z => False.elim z) (fun r2 w2 sz2 _ hP2 => ?_)
  obtain ⟨rfl, tm2, lb2, rfl, hJ2, hL2, hQ2⟩ := hP2
  obtain ⟨⟨z2, rfl⟩, hQ2⟩ := hQ2
  have hall2 : AI g (MW g w1 tm2 v bf sv pa lb2 sg td sm) sz1 n (B + 1) := by
    rcases hd1 with ⟨hk9, v9, f9, hL9, ho9, hf9⟩ | ⟨-, E9, hX9, hk9⟩
    · obtain ⟨-, rfl, rfl, rfl⟩ := hL9
      exact ⟨_, _, _, _, _, _, _, _, _, _, _, _, _, _, _, _, _, Nat.le_succ_of_le hc0, hC1.mw, hT1.mw, MR_MW, hJ2, (hA.tm (hL2 2 (by decide)) (hL2 7 (by decide)))⟩
    · obtain ⟨-, rfl, rfl, rfl⟩ := hX9
      exact ⟨_, _, _, _, _, _, _, _, _, _, _, _, _, _, _, _, _, Nat.le_succ_of_le hc0, hC1.mw, hT1.mw, MR_MW, hJ2, (hA.tm (hL2 2 (by decide)) (hL2 7 (by decide)))⟩
  refine x_st (st1 := [.int z2]) rfl ?_
  refine x_istore [(7, .int z2), (6, .int k1), (0, .ref b), (1, .ref (g.2 0)), (2, .ref (g.2 0 + 258)), (3, .ref (g.2 0 + 267)), (4, .ref (g.2 0 + 268)), (5, .int (nI i))] 1091 C0 dL_law_1089 rfl (by decide) rfl ?_
  refine x_goto 1185 C0 dL_law_1091 (by decide) ?_
  exact x_widen (k + 256) (q + 2500) (by omega) (by omega) (x_lv [2, 3, 4, 5, 6, 7] rfl (kk _ _ _ ⟨hall2, hO1.mw, hD1.mw⟩))
set_option maxHeartbeats 4000000 in
set_option maxRecDepth 100000 in
theorem law_c29 (hl : l.stackTraces = false) (C0 : xC p l s m args meth cD g cL_law 9 RL rt tb) (hX : va_X b L xs s s.heap) (hbl : b < s.heap.size) (hbA : ¬ xA g b) (hL : L ≤ 2560) (i n k q B : Nat) (hi : i + 5 ≤ L) (hB : B ≤ 512) (w : xw_T) (sz : Nat) (hI : LA g w sz n B) (hk : k + 256 ≤ 603072) (hq : q + 2500 ≤ 7202922) (kk : ∀ (w1 : xw_T) (sz1 n1 : Nat), LA g w1 sz1 n1 (B + 1) → xV p l e room_1 s m args below meth cD Q g 9 w1 sz1 (k + 256) (q + 2500) 1185 [(0, .ref b), (1, .ref (g.2 0)), (2, .ref (g.2 0 + 258)), (3, .ref (g.2 0 + 267)), (4, .ref (g.2 0 + 268)), (5, .int (nI i))] []) : xV p l e room_1 s m args below meth cD Q g 9 w sz k q 1094 [(0, .ref b), (1, .ref (g.2 0)), (2, .ref (g.2 0 + 258)), (3, .ref (g.2 0 + 267)), (4, .ref (g.2 0 + 268)), (5, .int (nI i))] [] := by
  obtain ⟨⟨x, la, t, tt, vb, sg, LN, LF, tm, v, bf, sv, pa, lb, td, sm, c0, hc0, hC, hT, hM, hJ, hA⟩, hO, hD⟩ := hI
  refine x_aload_n 1 1095 C0 dL_law_1094 rfl rfl rfl ?_
  refine x_aload_n 0 1096 C0 dL_law_1095 rfl rfl rfl ?_
  refine x_iload 5 1098 C0 dL_law_1096 rfl rfl ?_
  refine x_iconst (v := 1) 1099 C0 dL_law_1098 rfl (by decide) ?_
  refine x_iadd 1100 C0 dL_law_1099 rfl ?_
  refine x_st (st1 := [.int (nI (i + 1)), .ref b, .ref (g.2 0)]) (congrArg (fun z => Value.int z :: _) (nI_add i 1)) ?_
  refine x_sld 1101 C0 hX hbl hbA (vp_in_nI (n := i + 1) (by omega) (by omega)) dL_law_1100 rfl ?_
  obtain ⟨c1, hc1⟩ : ∃ z : Int32, (((xs (nI (i + 1)).toNatClampNeg)).toUInt32 % 65536).toInt32 = z := ⟨_, rfl⟩
  have hcc1 : vp_nar .char c1 = c1 := by rw [← hc1]; exact nar_c2 _
  refine x_i2c (v := c1) 1102 C0 dL_law_1101 rfl hc1 ?_
  refine x_aload_n 3 1103 C0 dL_law_1102 rfl rfl rfl ?_
  refine x_callSH 1106 C0 (e_L_feed l hl g w sz n x la t tt vb sg hC hO (c1)) dL_law_1103 rfl mC_L_feed mM_L_229 mS_L_feed mN_L yd_L_feed rfl rfl ⟨(Nat.le_of_ble_eq_true rfl), (Nat.le_of_ble_eq_true rfl)⟩ rfl rfl (Nat.le_of_ble_eq_true rfl) ⟨by show k + 8 ≤ 603072; omega, by show q + 64 ≤ 7202922; omega⟩ (fun _ _ _ z => False.elim z) (fun r2 w2 sz2 _ hP2 => ?_)
  obtain ⟨hF2, hz2, hP2⟩ := hP2
  have hM2 := hM.wf hF2 (Or.inl rfl) hC.zz
  have hT2 := hT.wf hF2 (Or.inl rfl) hz2
  have hD2 := hD.wf hF2 hC.zz
  have hO2 : wO g w2 := hP2.elim (fun z => z.2.2.2.elim (fun f h => ⟨f, h.1⟩)) (fun z => z.2.2.2)
  obtain ⟨k2, hr2, hkk2⟩ : ∃ k : Int32, r2 = some (.int k) ∧ ((n < 60 ∧ k = 0) ∨ (n = 60 ∧ k = 1)) := hP2.elim (fun z => ⟨0, z.2.1, Or.inl ⟨z.1, rfl⟩⟩) (fun z => ⟨1, z.2.1, Or.inr ⟨z.1, rfl⟩⟩)
  subst hr2
  refine x_st (st1 := [.int k2]) rfl ?_
  refine x_istore [(6, .int k2), (0, .ref b), (1, .ref (g.2 0)), (2, .ref (g.2 0 + 258)), (3, .ref (g.2 0 + 267)), (4, .ref (g.2 0 + 268)), (5, .int (nI i))] 1108 C0 dL_law_1106 rfl (by decide) rfl ?_
  refine x_aload_n 3 1109 C0 dL_law_1108 rfl rfl rfl ?_
  refine x_aload_n 1 1110 C0 dL_law_1109 rfl rfl rfl ?_
  refine x_iload 6 1112 C0 dL_law_1110 rfl rfl ?_
  refine x_iconst (v := 1) 1113 C0 dL_law_1112 rfl (by decide) ?_
  refine x_iadd 1114 C0 dL_law_1113 rfl ?_
  refine x_st (st1 := [.int (nI (i + 1)), .ref b, .ref (g.2 0 + 258)]) (congrArg (fun z => Value.int z :: _) (nI_add i 1)) ?_
  refine x_sld 1115 C0 hX hbl hbA (vp_in_nI (n := i + 1) (by omega) (by omega)) dL_law_1114 rfl ?_
  refine x_i2c (v := c1) 1116 C0 dL_law_1115 rfl hc1 ?_
  refine x_callV 1119 C0 (k_X8_feed l hl g w2 sz2 n tm v bf sv pa lb sg td sm hM2 hJ (c1)) dL_law_1116 rfl mC_X8_feed mM_L_232 mI_X8_feed mV_X8_feed mN_X8 yd_X8_feed rfl rfl ⟨(Nat.le_of_ble_eq_true rfl), (Nat.le_of_ble_eq_true rfl)⟩ hM2.o rfl rfl rfl rfl (Nat.le_of_ble_eq_true rfl) ⟨by show k + 8 + 0 ≤ 603072; omega, by show q + 64 + 0 ≤ 7202922; omega⟩ (fun _ _ _ z => False.elim z) (fun r3 w3 sz3 _ hP3 => ?_)
  obtain ⟨rfl, hP3⟩ := hP3
  obtain ⟨z3, hrz3⟩ : ∃ z : Int32, r3 = some (.int z) := hP3.elim (fun z => ⟨_, z.2.1⟩) (fun z => ⟨_, z.2.1⟩)
  obtain ⟨W3, hW3⟩ : ∃ z, z = w3 := ⟨_, rfl⟩
  obtain ⟨tm3, n3, hall3, hOW3, hDW3⟩ : ∃ (tm9 : Nat → Int32) (n9 : Nat), AI g w3 sz2 n9 (B + 1) ∧ wO g w3 ∧ wD g w3 := by
    rcases hP3 with ⟨hn9, hr9, t9, rfl, hJ9, h09, hL9⟩ | ⟨hn9, hr9, t9, rfl, hJ9, h09, hL9⟩
    · obtain ⟨-, -, hC9, -⟩ := hP2.resolve_right (fun z => by omega)
      rw [hcc1] at hC9
      exact ⟨t9, n + 1, ⟨_, _, _, _, _, _, _, _, _, _, _, _, _, _, _, _, _, Nat.le_succ_of_le hc0, hC9.mw, hT2.mw, MR_MW, hJ9, hA.tm (hL9 2 (by decide)) (hL9 7 (by decide))⟩, hO2.mw, hD2.mw⟩
    · obtain ⟨-, -, hC9, -⟩ := hP2.resolve_left (fun z => by omega)
      exact ⟨t9, n, ⟨_, _, _, _, _, _, _, _, _, _, _, _, _, _, _, _, _, Nat.le_succ_of_le hc0, hC9.mw, hT2.mw, MR_MW, hJ9, hA.tm (hL9 2 (by decide)) (hL9 7 (by decide))⟩, hO2.mw, hD2.mw⟩
  subst hrz3
  refine x_st (st1 := [.int z3]) rfl ?_
  refine x_istore [(7, .int z3), (6, .int k2), (0, .ref b), (1, .ref (g.2 0)), (2, .ref (g.2 0 + 258)), (3, .ref (g.2 0 + 267)), (4, .ref (g.2 0 + 268)), (5, .int (nI i))] 1121 C0 dL_law_1119 rfl (by decide) rfl ?_
  refine x_goto 1185 C0 dL_law_1121 (by decide) ?_
  exact x_widen (k + 256) (q + 2500) (by omega) (by omega) (x_lv [2, 3, 4, 5, 6, 7] rfl (kk _ _ _ ⟨hall3, hOW3, hDW3⟩))
set_option maxHeartbeats 4000000 in
set_option maxRecDepth 100000 in
theorem law_c30 (hl : l.stackTraces = false) (C0 : xC p l s m args meth cD g cL_law 9 RL rt tb) (hX : va_X b L xs s s.heap) (hbl : b < s.heap.size) (hbA : ¬ xA g b) (hL : L ≤ 2560) (i n k q B : Nat) (hi : i + 5 ≤ L) (hB : B ≤ 512) (w : xw_T) (sz : Nat) (hI : LA g w sz n B) (hk : k + 256 ≤ 603072) (hq : q + 2500 ≤ 7202922) (kk : ∀ (w1 : xw_T) (sz1 n1 : Nat), LA g w1 sz1 n1 (B + 1) → xV p l e room_1 s m args below meth cD Q g 9 w1 sz1 (k + 256) (q + 2500) 1185 [(0, .ref b), (1, .ref (g.2 0)), (2, .ref (g.2 0 + 258)), (3, .ref (g.2 0 + 267)), (4, .ref (g.2 0 + 268)), (5, .int (nI i))] []) : xV p l e room_1 s m args below meth cD Q g 9 w sz k q 1124 [(0, .ref b), (1, .ref (g.2 0)), (2, .ref (g.2 0 + 258)), (3, .ref (g.2 0 + 267)), (4, .ref (g.2 0 + 268)), (5, .int (nI i))] [] := by
  obtain ⟨⟨x, la, t, tt, vb, sg, LN, LF, tm, v, bf, sv, pa, lb, td, sm, c0, hc0, hC, hT, hM, hJ, hA⟩, hO, hD⟩ := hI
  refine x_aload_n 1 1125 C0 dL_law_1124 rfl rfl rfl ?_
  refine x_aload_n 3 1126 C0 dL_law_1125 rfl rfl rfl ?_
  refine x_callSH 1129 C0 (e_L_perform l hl g w sz n x la t tt vb sg hC v (LN 0) (LF 0) (hT 0 (by omega)) hA.1.1 hA.1.2 c0 (by omega) hA.h1 hO) dL_law_1126 rfl mC_L_perform mM_L_233 mS_L_perform mN_L yd_L_perform rfl rfl ⟨(Nat.le_of_ble_eq_true rfl), (Nat.le_of_ble_eq_true rfl)⟩ rfl rfl (Nat.le_of_ble_eq_true rfl) ⟨by show k + 256 ≤ 603072; omega, by show q + 2500 ≤ 7202922; omega⟩ (fun _ _ _ z => False.elim z) (fun r1 w1 sz1 _ hP1 => ?_)
  obtain ⟨k1, x1, la1, t1, tt1, vb1, rfl, hz1, hF1, hC1, hd1⟩ := hP1
  have hO1 : wO g w1 := by
    rcases hd1 with ⟨-, v9, f9, -, h9, -⟩ | ⟨h9, -⟩
    · exact ⟨f9, h9⟩
    · exact h9
  have hM1 := hM.wf hF1 (Or.inl rfl) hC.zz
  have hT1 := hT.wf hF1 (Or.inl rfl) hz1
  have hD1 := hD.wf hF1 hC.zz
  refine x_st (st1 := [.int k1]) rfl ?_
  refine x_istore [(6, .int k1), (0, .ref b), (1, .ref (g.2 0)), (2, .ref (g.2 0 + 258)), (3, .ref (g.2 0 + 267)), (4, .ref (g.2 0 + 268)), (5, .int (nI i))] 1131 C0 dL_law_1129 rfl (by decide) rfl ?_
  refine x_aload_n 3 1132 C0 dL_law_1131 rfl rfl rfl ?_
  refine x_callV 1135 C0 (e_X8_perform l hl g w1 sz1 n tm v bf sv pa lb sg td sm hM1 hJ) dL_law_1132 rfl mC_X8_perform mM_L_235 mI_X8_perform mV_X8_perform mN_X8 yd_X8_perform rfl rfl ⟨(Nat.le_of_ble_eq_true rfl), (Nat.le_of_ble_eq_true rfl)⟩ hM1.o rfl rfl rfl rfl (Nat.le_of_ble_eq_true rfl) ⟨by show k + 256 + 0 ≤ 603072; omega, by show q + 2500 + 0 ≤ 7202922; omega⟩ (fun _ _ _ z => False.elim z) (fun r2 w2 sz2 _ hP2 => ?_)
  obtain ⟨rfl, tm2, v2, bf2, pa2, lb2, td2, rfl, hJ2, h72, hQ2⟩ := hP2
  obtain ⟨z2, rfl⟩ : ∃ z : Int32, r2 = some (.int z) := hQ2.elim (fun ⟨_, _, _, z, _⟩ => ⟨_, z⟩) (fun ⟨_, _, _, _, _, _, _, _, _, z, _⟩ => endP_r z)
  have hall2 : AI g (MW g w1 tm2 v2 bf2 sv pa2 lb2 sg td2 sm) sz1 0 (B + 1) := by
    rcases hd1 with ⟨hk9, v9, f9, hL9, ho9, hf9⟩ | ⟨-, hk9, ht9, hX9⟩
    · obtain ⟨hr9, hz9, c9, LN9, LF9, hc9, hT9, hA9⟩ := al_perform_y (w := w) (sz := sz) hJ.2.2.2.2.2.2.1 hA hT1 (by omega) h72 hL9 hQ2
      exact ⟨_, _, _, _, _, _, _, _, _, _, _, _, _, _, _, _, _, Nat.le_trans hc9 (by omega), hC1.mw, hT9.mw, MR_MW, hJ2, hA9⟩
    · obtain ⟨hz9, c9, LN9, LF9, hc9, hT9, hA9⟩ := al_perform_n hJ.2.2.2.2.2.2.1 hA hT1 h72 rfl ht9 hX9 hQ2
      exact ⟨_, _, _, _, _, _, _, _, _, _, _, _, _, _, _, _, _, Nat.le_trans hc9 (by omega), hC1.mw, hT9.mw, MR_MW, hJ2, hA9⟩
  refine x_st (st1 := [.int z2]) rfl ?_
  refine x_istore [(7, .int z2), (6, .int k1), (0, .ref b), (1, .ref (g.2 0)), (2, .ref (g.2 0 + 258)), (3, .ref (g.2 0 + 267)), (4, .ref (g.2 0 + 268)), (5, .int (nI i))] 1137 C0 dL_law_1135 rfl (by decide) rfl ?_
  refine x_goto 1185 C0 dL_law_1137 (by decide) ?_
  exact x_widen (k + 256) (q + 2500) (by omega) (by omega) (x_lv [2, 3, 4, 5, 6, 7] rfl (kk _ _ _ ⟨hall2, hO1.mw, hD1.mw⟩))
set_option maxHeartbeats 4000000 in
set_option maxRecDepth 100000 in
theorem law_c31 (hl : l.stackTraces = false) (C0 : xC p l s m args meth cD g cL_law 9 RL rt tb) (hX : va_X b L xs s s.heap) (hbl : b < s.heap.size) (hbA : ¬ xA g b) (hL : L ≤ 2560) (i n k q B : Nat) (hi : i + 5 ≤ L) (hB : B ≤ 512) (w : xw_T) (sz : Nat) (hI : LA g w sz n B) (hk : k + 256 ≤ 603072) (hq : q + 2500 ≤ 7202922) (kk : ∀ (w1 : xw_T) (sz1 n1 : Nat), LA g w1 sz1 n1 (B + 1) → xV p l e room_1 s m args below meth cD Q g 9 w1 sz1 (k + 256) (q + 2500) 1185 [(0, .ref b), (1, .ref (g.2 0)), (2, .ref (g.2 0 + 258)), (3, .ref (g.2 0 + 267)), (4, .ref (g.2 0 + 268)), (5, .int (nI i))] []) : xV p l e room_1 s m args below meth cD Q g 9 w sz k q 1140 [(0, .ref b), (1, .ref (g.2 0)), (2, .ref (g.2 0 + 258)), (3, .ref (g.2 0 + 267)), (4, .ref (g.2 0 + 268)), (5, .int (nI i))] [] := by
  obtain ⟨⟨x, la, t, tt, vb, sg, LN, LF, tm, v, bf, sv, pa, lb, td, sm, c0, hc0, hC, hT, hM, hJ, hA⟩, hO, hD⟩ := hI
  refine x_aload_n 1 1141 C0 dL_law_1140 rfl rfl rfl ?_
  refine x_aload_n 3 1142 C0 dL_law_1141 rfl rfl rfl ?_
  refine x_callSH 1145 C0 (e_L_undo l hl g w sz n x la t tt vb sg hC hO) dL_law_1142 rfl mC_L_undo mM_L_236 mS_L_undo mN_L yd_L_undo rfl rfl ⟨(Nat.le_of_ble_eq_true rfl), (Nat.le_of_ble_eq_true rfl)⟩ rfl rfl (Nat.le_of_ble_eq_true rfl) ⟨by show k + 8 ≤ 603072; omega, by show q + 64 ≤ 7202922; omega⟩ (fun _ _ _ z => False.elim z) (fun r1 w1 sz1 _ hP1 => ?_)
  obtain ⟨k1, x1, la1, t1, rfl, hz1, hF1, hC1, hd1⟩ := hP1
  have hO1 : wO g w1 := by
    rcases hd1 with ⟨-, v9, f9, -, h9, -⟩ | ⟨h9, -⟩
    · exact ⟨f9, h9⟩
    · exact h9
  have hM1 := hM.wf hF1 (Or.inl rfl) hC.zz
  have hT1 := hT.wf hF1 (Or.inl rfl) hz1
  have hD1 := hD.wf hF1 hC.zz
  refine x_st (st1 := [.int k1]) rfl ?_
  refine x_istore [(6, .int k1), (0, .ref b), (1, .ref (g.2 0)), (2, .ref (g.2 0 + 258)), (3, .ref (g.2 0 + 267)), (4, .ref (g.2 0 + 268)), (5, .int (nI i))] 1147 C0 dL_law_1145 rfl (by decide) rfl ?_
  refine x_aload_n 3 1148 C0 dL_law_1147 rfl rfl rfl ?_
  refine x_callV 1151 C0 (k_X8_undo l hl g w1 sz1 n tm v bf sv pa lb sg td sm hM1 hJ) dL_law_1148 rfl mC_X8_undo mM_L_238 mI_X8_undo mV_X8_undo mN_X8 yd_X8_undo rfl rfl ⟨(Nat.le_of_ble_eq_true rfl), (Nat.le_of_ble_eq_true rfl)⟩ hM1.o rfl rfl rfl rfl (Nat.le_of_ble_eq_true rfl) ⟨by show k + 8 + 0 ≤ 603072; omega, by show q + 64 + 0 ≤ 7202922; omega⟩ (fun _ _ _ z => False.elim z) (fun r2 w2 sz2 _ hP2 => ?_)
  obtain ⟨rfl, tm2, v2, rfl, hJ2, h72, hQ2⟩ := hP2
  have hQ2 : uP tm v pa r2 tm2 v2 := hQ2
  obtain ⟨z2, rfl⟩ : ∃ z : Int32, r2 = some (.int z) := hQ2.elim (fun z => ⟨0, z.2.2.1⟩) (fun ⟨c, _, _, _, _, q, _⟩ => ⟨_, q⟩)
  have hall2 : AI g (MW g w1 tm2 v2 bf sv pa lb sg td sm) sz1 n (B + 1) := by
    rcases hd1 with ⟨hk9, v9, f9, hL9, ho9, hf9⟩ | ⟨-, E9, hX9, hk9⟩
    · obtain ⟨hr9, hz9, c9, LN9, LF9, hc9, hT9, hA9⟩ := al_undo_y hA hT1 (by omega) h72 hQ2 hL9
      exact ⟨_, _, _, _, _, _, _, _, _, _, _, _, _, _, _, _, _, Nat.le_trans hc9 (by omega), hC1.mw, hT9.mw, MR_MW, hJ2, hA9⟩
    · obtain ⟨hz9, c9, LN9, LF9, hc9, hT9, hA9⟩ := al_undo_n hA hT1 h72 hQ2 hX9
      exact ⟨_, _, _, _, _, _, _, _, _, _, _, _, _, _, _, _, _, Nat.le_trans hc9 (by omega), hC1.mw, hT9.mw, MR_MW, hJ2, hA9⟩
  refine x_st (st1 := [.int z2]) rfl ?_
  refine x_istore [(7, .int z2), (6, .int k1), (0, .ref b), (1, .ref (g.2 0)), (2, .ref (g.2 0 + 258)), (3, .ref (g.2 0 + 267)), (4, .ref (g.2 0 + 268)), (5, .int (nI i))] 1153 C0 dL_law_1151 rfl (by decide) rfl ?_
  refine x_goto 1185 C0 dL_law_1153 (by decide) ?_
  exact x_widen (k + 256) (q + 2500) (by omega) (by omega) (x_lv [2, 3, 4, 5, 6, 7] rfl (kk _ _ _ ⟨hall2, hO1.mw, hD1.mw⟩))
set_option maxHeartbeats 4000000 in
set_option maxRecDepth 100000 in
theorem law_c32 (hl : l.stackTraces = false) (C0 : xC p l s m args meth cD g cL_law 9 RL rt tb) (hX : va_X b L xs s s.heap) (hbl : b < s.heap.size) (hbA : ¬ xA g b) (hL : L ≤ 2560) (i n k q B : Nat) (hi : i + 5 ≤ L) (hB : B ≤ 512) (w : xw_T) (sz : Nat) (hI : LA g w sz n B) (hk : k + 256 ≤ 603072) (hq : q + 2500 ≤ 7202922) (kk : ∀ (w1 : xw_T) (sz1 n1 : Nat), LA g w1 sz1 n1 (B + 1) → xV p l e room_1 s m args below meth cD Q g 9 w1 sz1 (k + 256) (q + 2500) 1185 [(0, .ref b), (1, .ref (g.2 0)), (2, .ref (g.2 0 + 258)), (3, .ref (g.2 0 + 267)), (4, .ref (g.2 0 + 268)), (5, .int (nI i))] []) : xV p l e room_1 s m args below meth cD Q g 9 w sz k q 1156 [(0, .ref b), (1, .ref (g.2 0)), (2, .ref (g.2 0 + 258)), (3, .ref (g.2 0 + 267)), (4, .ref (g.2 0 + 268)), (5, .int (nI i))] [] := by
  obtain ⟨⟨x, la, t, tt, vb, sg, LN, LF, tm, v, bf, sv, pa, lb, td, sm, c0, hc0, hC, hT, hM, hJ, hA⟩, hO, hD⟩ := hI
  refine x_aload_n 1 1157 C0 dL_law_1156 rfl rfl rfl ?_
  refine x_callV 1160 C0 (e_X7_save l hl g w sz n x la t tt vb sg hC) dL_law_1157 rfl mC_X7_save mM_L_239 mI_X7_save mV_X7_save mN_X7 yd_X7_save rfl rfl ⟨(Nat.le_of_ble_eq_true rfl), (Nat.le_of_ble_eq_true rfl)⟩ hC.1.1 rfl rfl rfl rfl (Nat.le_of_ble_eq_true rfl) ⟨by show k + 8 ≤ 603072; omega, by show q + 64 ≤ 7202922; omega⟩ (fun _ _ _ z => False.elim z) (fun r1 w1 sz1 _ hP1 => ?_)
  obtain ⟨⟨k1, rfl⟩, hF1, hz1, x1, la1, t1, hC1, hL1⟩ := hP1
  have hM1 := hM.wf (hF1.wf (a := 267)) (Or.inl rfl) hC.zz
  have hT1 := hT.wf (hF1.wf (a := 267)) (Or.inl rfl) hz1
  have hO1 := hO.xf hF1 hC.zz
  have hD1 := hD.wf hF1.wf hC.zz
  refine x_st (st1 := [.int k1]) rfl ?_
  refine x_pop 1161 C0 dL_law_1160 rfl rfl ?_
  refine x_aload_n 2 1162 C0 dL_law_1161 rfl rfl rfl ?_
  refine x_callV 1165 C0 (k_X8_save l hl g w1 sz1 n tm v bf sv pa lb sg td sm hM1 hJ) dL_law_1162 rfl mC_X8_save mM_L_242 mI_X8_save mV_X8_save mN_X8 yd_X8_save rfl rfl ⟨(Nat.le_of_ble_eq_true rfl), (Nat.le_of_ble_eq_true rfl)⟩ hM1.o rfl rfl rfl rfl (Nat.le_of_ble_eq_true rfl) ⟨by show k + 8 + 0 ≤ 603072; omega, by show q + 64 + 0 ≤ 7202922; omega⟩ (fun _ _ _ z => False.elim z) (fun r2 w2 sz2 _ hP2 => ?_)
  obtain ⟨rfl, tm2, sv2, rfl, hJ2, h72, h22, h02, rfl, hs2⟩ := hP2
  obtain ⟨z2, hzz2⟩ : ∃ z : Int32, z = v 0 := ⟨_, rfl⟩
  obtain ⟨hr9, c9, LN9, LF9, hc9, hT9, hA9⟩ := al_save hA hT1 h72 h22 rfl hs2 hL1
  have hall2 : AI g (MW g w1 tm2 v bf sv2 pa lb sg td sm) sz1 n (B + 1) := ⟨_, _, _, _, _, _, _, _, _, _, _, _, _, _, _, _, _, Nat.le_trans hc9 (by omega), hC1.mw, hT9.mw, MR_MW, hJ2, hA9⟩
  refine x_st (st1 := [.int (v 0)]) rfl ?_
  refine x_pop 1166 C0 dL_law_1165 rfl rfl ?_
  refine x_goto 1185 C0 dL_law_1166 (by decide) ?_
  exact x_widen (k + 256) (q + 2500) (by omega) (by omega) (x_lv [0, 1, 2, 3, 4, 5] rfl (kk _ _ _ ⟨hall2, hO1.mw, hD1.mw⟩))
set_option maxHeartbeats 4000000 in
set_option maxRecDepth 100000 in
theorem law_c33 (hl : l.stackTraces = false) (C0 : xC p l s m args meth cD g cL_law 9 RL rt tb) (hX : va_X b L xs s s.heap) (hbl : b < s.heap.size) (hbA : ¬ xA g b) (hL : L ≤ 2560) (i n k q B : Nat) (hi : i + 5 ≤ L) (hB : B ≤ 512) (w : xw_T) (sz : Nat) (hI : LA g w sz n B) (hk : k + 256 ≤ 603072) (hq : q + 2500 ≤ 7202922) (kk : ∀ (w1 : xw_T) (sz1 n1 : Nat), LA g w1 sz1 n1 (B + 1) → xV p l e room_1 s m args below meth cD Q g 9 w1 sz1 (k + 256) (q + 2500) 1185 [(0, .ref b), (1, .ref (g.2 0)), (2, .ref (g.2 0 + 258)), (3, .ref (g.2 0 + 267)), (4, .ref (g.2 0 + 268)), (5, .int (nI i))] []) : xV p l e room_1 s m args below meth cD Q g 9 w sz k q 1169 [(0, .ref b), (1, .ref (g.2 0)), (2, .ref (g.2 0 + 258)), (3, .ref (g.2 0 + 267)), (4, .ref (g.2 0 + 268)), (5, .int (nI i))] [] := by
  obtain ⟨⟨x, la, t, tt, vb, sg, LN, LF, tm, v, bf, sv, pa, lb, td, sm, c0, hc0, hC, hT, hM, hJ, hA⟩, hO, hD⟩ := hI
  refine x_aload_n 1 1170 C0 dL_law_1169 rfl rfl rfl ?_
  refine x_aload_n 3 1171 C0 dL_law_1170 rfl rfl rfl ?_
  refine x_callSH 1174 C0 (e_L_restore l hl g w sz n x la t tt vb sg hC hO) dL_law_1171 rfl mC_L_restore mM_L_243 mS_L_restore mN_L yd_L_restore rfl rfl ⟨(Nat.le_of_ble_eq_true rfl), (Nat.le_of_ble_eq_true rfl)⟩ rfl rfl (Nat.le_of_ble_eq_true rfl) ⟨by show k + 8 ≤ 603072; omega, by show q + 64 ≤ 7202922; omega⟩ (fun _ _ _ z => False.elim z) (fun r1 w1 sz1 _ hP1 => ?_)
  obtain ⟨k1, x1, la1, t1, rfl, hz1, hF1, hC1, hd1⟩ := hP1
  have hO1 : wO g w1 := by
    rcases hd1 with ⟨-, v9, f9, -, h9, -⟩ | ⟨h9, -⟩
    · exact ⟨f9, h9⟩
    · exact h9
  have hM1 := hM.wf hF1 (Or.inl rfl) hC.zz
  have hT1 := hT.wf hF1 (Or.inl rfl) hz1
  have hD1 := hD.wf hF1 hC.zz
  refine x_st (st1 := [.int k1]) rfl ?_
  refine x_istore [(6, .int k1), (0, .ref b), (1, .ref (g.2 0)), (2, .ref (g.2 0 + 258)), (3, .ref (g.2 0 + 267)), (4, .ref (g.2 0 + 268)), (5, .int (nI i))] 1176 C0 dL_law_1174 rfl (by decide) rfl ?_
  refine x_aload_n 3 1177 C0 dL_law_1176 rfl rfl rfl ?_
  refine x_callV 1180 C0 (k_X8_restore l hl g w1 sz1 n tm v bf sv pa lb sg td sm hM1 hJ) dL_law_1177 rfl mC_X8_restore mM_L_245 mI_X8_restore mV_X8_restore mN_X8 yd_X8_restore rfl rfl ⟨(Nat.le_of_ble_eq_true rfl), (Nat.le_of_ble_eq_true rfl)⟩ hM1.o rfl rfl rfl rfl (Nat.le_of_ble_eq_true rfl) ⟨by show k + 8 + 0 ≤ 603072; omega, by show q + 64 + 0 ≤ 7202922; omega⟩ (fun _ _ _ z => False.elim z) (fun r2 w2 sz2 _ hP2 => ?_)
  obtain ⟨rfl, tm2, v2, rfl, hJ2, h72, hQ2⟩ := hP2
  have hQ2 : reP tm v sv r2 tm2 v2 := hQ2
  obtain ⟨z2, rfl⟩ : ∃ z : Int32, r2 = some (.int z) := hQ2.elim (fun z => ⟨0, z.2.2.1⟩) (fun z => ⟨_, z.2.2.2.2⟩)
  have hall2 : AI g (MW g w1 tm2 v2 bf sv pa lb sg td sm) sz1 n (B + 1) := by
    rcases hd1 with ⟨hk9, v9, f9, hL9, ho9, hf9⟩ | ⟨-, E9, hX9, hk9⟩
    · obtain ⟨hr9, hz9, c9, LN9, LF9, hc9, hT9, hA9⟩ := al_restore_y hA hT1 h72 hQ2 hL9
      exact ⟨_, _, _, _, _, _, _, _, _, _, _, _, _, _, _, _, _, Nat.le_trans hc9 (by omega), hC1.mw, hT9.mw, MR_MW, hJ2, hA9⟩
    · obtain ⟨hz9, c9, LN9, LF9, hc9, hT9, hA9⟩ := al_restore_n hA hT1 h72 hQ2 hX9
      exact ⟨_, _, _, _, _, _, _, _, _, _, _, _, _, _, _, _, _, Nat.le_trans hc9 (by omega), hC1.mw, hT9.mw, MR_MW, hJ2, hA9⟩
  refine x_st (st1 := [.int z2]) rfl ?_
  refine x_istore [(7, .int z2), (6, .int k1), (0, .ref b), (1, .ref (g.2 0)), (2, .ref (g.2 0 + 258)), (3, .ref (g.2 0 + 267)), (4, .ref (g.2 0 + 268)), (5, .int (nI i))] 1182 C0 dL_law_1180 rfl (by decide) rfl ?_
  refine x_goto 1185 C0 dL_law_1182 (by decide) ?_
  exact x_widen (k + 256) (q + 2500) (by omega) (by omega) (x_lv [2, 3, 4, 5, 6, 7] rfl (kk _ _ _ ⟨hall2, hO1.mw, hD1.mw⟩))
set_option maxHeartbeats 4000000 in
set_option maxRecDepth 100000 in
theorem law_loop (hl : l.stackTraces = false) (C0 : xC p l s m args meth cD g cL_law 9 RL rt tb) (hX : va_X b L xs s s.heap) (hbl : b < s.heap.size) (hbA : ¬ xA g b) (hL : L ≤ 2560) (hEnd : ∀ (w : xw_T) (sz k q : Nat) (lv : List (Nat × Value)), k ≤ 603072 → q ≤ 7202922 → xV p l e room_1 s m args below meth cD Q g 9 w sz k q 1192 lv [.int 1]) : ∀ (N i j : Nat) (w : xw_T) (sz n k q : Nat), L + 5 - i < N → i = 5 * j → i ≤ L → k ≤ 272 + 256 * j → q ≤ 5377 + 2500 * j → LA g w sz n j → xV p l e room_1 s m args below meth cD Q g 9 w sz k q 28 [(0, .ref b), (1, .ref (g.2 0)), (2, .ref (g.2 0 + 258)), (3, .ref (g.2 0 + 267)), (4, .ref (g.2 0 + 268)), (5, .int (nI i))] [] := by
  intro N
  induction N with
  | zero => intro i j w sz n k q h1; omega
  | succ N ih =>
    intro i j w sz n k q hN hij hiL hk hq hI
    refine x_iload 5 30 C0 dL_law_28 rfl rfl ?_
    refine x_aload_n 0 31 C0 dL_law_30 rfl rfl rfl ?_
    refine x_slen 32 C0 hX hbl hbA dL_law_31 rfl ?_
    refine x_iconst (v := 5) 33 C0 dL_law_32 rfl (by decide) ?_
    refine x_isub 34 C0 dL_law_33 rfl ?_
    refine x_icmp_gt 1191 37 C0 dL_law_34 rfl (by decide) (fun _ => ?_) (fun hc => ?_)
    · refine x_iconst (v := 1) 1192 C0 dL_law_1191 rfl (by decide) ?_
      exact hEnd _ _ _ _ _ (by omega) (by omega)
    · have hi := law_ix hL (by omega) hc
      have kk : ∀ (w1 : xw_T) (sz1 n1 : Nat), LA g w1 sz1 n1 (j + 1) → xV p l e room_1 s m args below meth cD Q g 9 w1 sz1 (k + 256) (q + 2500) 1185 [(0, .ref b), (1, .ref (g.2 0)), (2, .ref (g.2 0 + 258)), (3, .ref (g.2 0 + 267)), (4, .ref (g.2 0 + 268)), (5, .int (nI i))] [] := by
        intro w1 sz1 n1 hI1
        refine x_iinc [(5, .int (nI (i + 5))), (0, .ref b), (1, .ref (g.2 0)), (2, .ref (g.2 0 + 258)), (3, .ref (g.2 0 + 267)), (4, .ref (g.2 0 + 268))] 5 1188 C0 dL_law_1185 rfl rfl (nI_add i 5) (by decide) rfl ?_
        refine x_goto 28 C0 dL_law_1188 (by decide) ?_
        exact x_lv [1, 2, 3, 4, 5, 0] rfl (ih (i + 5) (j + 1) w1 sz1 n1 _ _ (by omega) (by omega) (by omega) (by omega) (by omega) hI1)
      refine x_aload_n 0 38 C0 dL_law_37 rfl rfl rfl ?_
      refine x_iload 5 40 C0 dL_law_38 rfl rfl ?_
      refine x_sld 41 C0 hX hbl hbA (vp_in_nI (n := i) (by omega) (by omega)) dL_law_40 rfl ?_
      refine x_bipush (v := 63) 43 C0 dL_law_41 rfl (by decide) ?_
      refine x_iand 44 C0 dL_law_43 rfl ?_
      obtain ⟨x, hx⟩ : ∃ x : Int32, xs (nI i).toNatClampNeg &&& 63 = x := ⟨_, rfl⟩
      refine x_st (st1 := [.int x]) (congrArg (fun z => [Value.int z]) hx) ?_
      clear hx
      have hs : (x.toInt < 0 ∨ 33 < x.toInt) ∨ x.toInt = 0 ∨ x.toInt = 1 ∨ x.toInt = 2 ∨ x.toInt = 3 ∨ x.toInt = 4 ∨ x.toInt = 5 ∨ x.toInt = 6 ∨ x.toInt = 7 ∨ x.toInt = 8 ∨ x.toInt = 9 ∨ x.toInt = 10 ∨ x.toInt = 11 ∨ x.toInt = 12 ∨ x.toInt = 13 ∨ x.toInt = 14 ∨ x.toInt = 15 ∨ x.toInt = 16 ∨ x.toInt = 17 ∨ x.toInt = 18 ∨ x.toInt = 19 ∨ x.toInt = 20 ∨ x.toInt = 21 ∨ x.toInt = 22 ∨ x.toInt = 23 ∨ x.toInt = 24 ∨ x.toInt = 25 ∨ x.toInt = 26 ∨ x.toInt = 27 ∨ x.toInt = 28 ∨ x.toInt = 29 ∨ x.toInt = 30 ∨ x.toInt = 31 ∨ x.toInt = 32 ∨ x.toInt = 33 := by omega
      rcases hs with hs | hs | hs | hs | hs | hs | hs | hs | hs | hs | hs | hs | hs | hs | hs | hs | hs | hs | hs | hs | hs | hs | hs | hs | hs | hs | hs | hs | hs | hs | hs | hs | hs | hs | hs
      · exact x_tabOut 1185 C0 dL_law_44 hs (by decide) (x_widen (k + 256) (q + 2500) (by omega) (by omega) (kk _ _ _ hI.more))
      · obtain rfl : x = 0 := Int32.toInt_inj.mp (hs.trans rfl)
        exact x_tabIn 196 C0 (x := 0) dL_law_44 (by decide) (by decide) rfl (by decide) (law_c0 hl C0 hX hbl hbA hL i n k q j hi (by omega) w sz hI (by omega) (by omega) kk)
      · obtain rfl : x = 1 := Int32.toInt_inj.mp (hs.trans rfl)
        exact x_tabIn 248 C0 (x := 1) dL_law_44 (by decide) (by decide) rfl (by decide) (law_c1 hl C0 hX hbl hbA hL i n k q j hi (by omega) w sz hI (by omega) (by omega) kk)
      · obtain rfl : x = 2 := Int32.toInt_inj.mp (hs.trans rfl)
        exact x_tabIn 288 C0 (x := 2) dL_law_44 (by decide) (by decide) rfl (by decide) (law_c2 hl C0 hX hbl hbA hL i n k q j hi (by omega) w sz hI (by omega) (by omega) kk)
      · obtain rfl : x = 3 := Int32.toInt_inj.mp (hs.trans rfl)
        exact x_tabIn 301 C0 (x := 3) dL_law_44 (by decide) (by decide) rfl (by decide) (law_c3 hl C0 hX hbl hbA hL i n k q j hi (by omega) w sz hI (by omega) (by omega) kk)
      · obtain rfl : x = 4 := Int32.toInt_inj.mp (hs.trans rfl)
        exact x_tabIn 357 C0 (x := 4) dL_law_44 (by decide) (by decide) rfl (by decide) (law_c4 hl C0 hX hbl hbA hL i n k q j hi (by omega) w sz hI (by omega) (by omega) kk)
      · obtain rfl : x = 5 := Int32.toInt_inj.mp (hs.trans rfl)
        exact x_tabIn 385 C0 (x := 5) dL_law_44 (by decide) (by decide) rfl (by decide) (law_c5 hl C0 hX hbl hbA hL i n k q j hi (by omega) w sz hI (by omega) (by omega) kk)
      · obtain rfl : x = 6 := Int32.toInt_inj.mp (hs.trans rfl)
        exact x_tabIn 413 C0 (x := 6) dL_law_44 (by decide) (by decide) rfl (by decide) (law_c6 hl C0 hX hbl hbA hL i n k q j hi (by omega) w sz hI (by omega) (by omega) kk)
      · obtain rfl : x = 7 := Int32.toInt_inj.mp (hs.trans rfl)
        exact x_tabIn 477 C0 (x := 7) dL_law_44 (by decide) (by decide) rfl (by decide) (law_c7 hl C0 hX hbl hbA hL i n k q j hi (by omega) w sz hI (by omega) (by omega) kk)
      · obtain rfl : x = 8 := Int32.toInt_inj.mp (hs.trans rfl)
        exact x_tabIn 505 C0 (x := 8) dL_law_44 (by decide) (by decide) rfl (by decide) (law_c8 hl C0 hX hbl hbA hL i n k q j hi (by omega) w sz hI (by omega) (by omega) kk)
      · obtain rfl : x = 9 := Int32.toInt_inj.mp (hs.trans rfl)
        exact x_tabIn 545 C0 (x := 9) dL_law_44 (by decide) (by decide) rfl (by decide) (law_c9 hl C0 hX hbl hbA hL i n k q j hi (by omega) w sz hI (by omega) (by omega) kk)
      · obtain rfl : x = 10 := Int32.toInt_inj.mp (hs.trans rfl)
        exact x_tabIn 573 C0 (x := 10) dL_law_44 (by decide) (by decide) rfl (by decide) (law_c10 hl C0 hX hbl hbA hL i n k q j hi (by omega) w sz hI (by omega) (by omega) kk)
      · obtain rfl : x = 11 := Int32.toInt_inj.mp (hs.trans rfl)
        exact x_tabIn 629 C0 (x := 11) dL_law_44 (by decide) (by decide) rfl (by decide) (law_c11 hl C0 hX hbl hbA hL i n k q j hi (by omega) w sz hI (by omega) (by omega) kk)
      · obtain rfl : x = 12 := Int32.toInt_inj.mp (hs.trans rfl)
        exact x_tabIn 669 C0 (x := 12) dL_law_44 (by decide) (by decide) rfl (by decide) (law_c12 hl C0 hX hbl hbA hL i n k q j hi (by omega) w sz hI (by omega) (by omega) kk)
      · obtain rfl : x = 13 := Int32.toInt_inj.mp (hs.trans rfl)
        exact x_tabIn 709 C0 (x := 13) dL_law_44 (by decide) (by decide) rfl (by decide) (law_c13 hl C0 hX hbl hbA hL i n k q j hi (by omega) w sz hI (by omega) (by omega) kk)
      · obtain rfl : x = 14 := Int32.toInt_inj.mp (hs.trans rfl)
        exact x_tabIn 737 C0 (x := 14) dL_law_44 (by decide) (by decide) rfl (by decide) (law_c14 hl C0 hX hbl hbA hL i n k q j hi (by omega) w sz hI (by omega) (by omega) kk)
      · obtain rfl : x = 15 := Int32.toInt_inj.mp (hs.trans rfl)
        exact x_tabIn 765 C0 (x := 15) dL_law_44 (by decide) (by decide) rfl (by decide) (law_c15 hl C0 hX hbl hbA hL i n k q j hi (by omega) w sz hI (by omega) (by omega) kk)
      · obtain rfl : x = 16 := Int32.toInt_inj.mp (hs.trans rfl)
        exact x_tabIn 793 C0 (x := 16) dL_law_44 (by decide) (by decide) rfl (by decide) (law_c16 hl C0 hX hbl hbA hL i n k q j hi (by omega) w sz hI (by omega) (by omega) kk)
      · obtain rfl : x = 17 := Int32.toInt_inj.mp (hs.trans rfl)
        exact x_tabIn 821 C0 (x := 17) dL_law_44 (by decide) (by decide) rfl (by decide) (law_c17 hl C0 hX hbl hbA hL i n k q j hi (by omega) w sz hI (by omega) (by omega) kk)
      · obtain rfl : x = 18 := Int32.toInt_inj.mp (hs.trans rfl)
        exact x_tabIn 837 C0 (x := 18) dL_law_44 (by decide) (by decide) rfl (by decide) (law_c18 hl C0 hX hbl hbA hL i n k q j hi (by omega) w sz hI (by omega) (by omega) kk)
      · obtain rfl : x = 19 := Int32.toInt_inj.mp (hs.trans rfl)
        exact x_tabIn 850 C0 (x := 19) dL_law_44 (by decide) (by decide) rfl (by decide) (law_c19 hl C0 hX hbl hbA hL i n k q j hi (by omega) w sz hI (by omega) (by omega) kk)
      · obtain rfl : x = 20 := Int32.toInt_inj.mp (hs.trans rfl)
        exact x_tabIn 878 C0 (x := 20) dL_law_44 (by decide) (by decide) rfl (by decide) (law_c20 hl C0 hX hbl hbA hL i n k q j hi (by omega) w sz hI (by omega) (by omega) kk)
      · obtain rfl : x = 21 := Int32.toInt_inj.mp (hs.trans rfl)
        exact x_tabIn 906 C0 (x := 21) dL_law_44 (by decide) (by decide) rfl (by decide) (law_c21 hl C0 hX hbl hbA hL i n k q j hi (by omega) w sz hI (by omega) (by omega) kk)
      · obtain rfl : x = 22 := Int32.toInt_inj.mp (hs.trans rfl)
        exact x_tabIn 919 C0 (x := 22) dL_law_44 (by decide) (by decide) rfl (by decide) (law_c22 hl C0 hX hbl hbA hL i n k q j hi (by omega) w sz hI (by omega) (by omega) kk)
      · obtain rfl : x = 23 := Int32.toInt_inj.mp (hs.trans rfl)
        exact x_tabIn 947 C0 (x := 23) dL_law_44 (by decide) (by decide) rfl (by decide) (law_c23 hl C0 hX hbl hbA hL i n k q j hi (by omega) w sz hI (by omega) (by omega) kk)
      · obtain rfl : x = 24 := Int32.toInt_inj.mp (hs.trans rfl)
        exact x_tabIn 975 C0 (x := 24) dL_law_44 (by decide) (by decide) rfl (by decide) (law_c24 hl C0 hX hbl hbA hL i n k q j hi (by omega) w sz hI (by omega) (by omega) kk)
      · obtain rfl : x = 25 := Int32.toInt_inj.mp (hs.trans rfl)
        exact x_tabIn 988 C0 (x := 25) dL_law_44 (by decide) (by decide) rfl (by decide) (law_c25 hl C0 hX hbl hbA hL i n k q j hi (by omega) w sz hI (by omega) (by omega) kk)
      · obtain rfl : x = 26 := Int32.toInt_inj.mp (hs.trans rfl)
        exact x_tabIn 1005 C0 (x := 26) dL_law_44 (by decide) (by decide) rfl (by decide) (law_c26 hl C0 hX hbl hbA hL i n k q j hi (by omega) w sz hI (by omega) (by omega) kk)
      · obtain rfl : x = 27 := Int32.toInt_inj.mp (hs.trans rfl)
        exact x_tabIn 1022 C0 (x := 27) dL_law_44 (by decide) (by decide) rfl (by decide) (law_c27 hl C0 hX hbl hbA hL i n k q j hi (by omega) w sz hI (by omega) (by omega) kk)
      · obtain rfl : x = 28 := Int32.toInt_inj.mp (hs.trans rfl)
        exact x_tabIn 1066 C0 (x := 28) dL_law_44 (by decide) (by decide) rfl (by decide) (law_c28 hl C0 hX hbl hbA hL i n k q j hi (by omega) w sz hI (by omega) (by omega) kk)
      · obtain rfl : x = 29 := Int32.toInt_inj.mp (hs.trans rfl)
        exact x_tabIn 1094 C0 (x := 29) dL_law_44 (by decide) (by decide) rfl (by decide) (law_c29 hl C0 hX hbl hbA hL i n k q j hi (by omega) w sz hI (by omega) (by omega) kk)
      · obtain rfl : x = 30 := Int32.toInt_inj.mp (hs.trans rfl)
        exact x_tabIn 1124 C0 (x := 30) dL_law_44 (by decide) (by decide) rfl (by decide) (law_c30 hl C0 hX hbl hbA hL i n k q j hi (by omega) w sz hI (by omega) (by omega) kk)
      · obtain rfl : x = 31 := Int32.toInt_inj.mp (hs.trans rfl)
        exact x_tabIn 1140 C0 (x := 31) dL_law_44 (by decide) (by decide) rfl (by decide) (law_c31 hl C0 hX hbl hbA hL i n k q j hi (by omega) w sz hI (by omega) (by omega) kk)
      · obtain rfl : x = 32 := Int32.toInt_inj.mp (hs.trans rfl)
        exact x_tabIn 1156 C0 (x := 32) dL_law_44 (by decide) (by decide) rfl (by decide) (law_c32 hl C0 hX hbl hbA hL i n k q j hi (by omega) w sz hI (by omega) (by omega) kk)
      · obtain rfl : x = 33 := Int32.toInt_inj.mp (hs.trans rfl)
        exact x_tabIn 1169 C0 (x := 33) dL_law_44 (by decide) (by decide) rfl (by decide) (law_c33 hl C0 hX hbl hbA hL i n k q j hi (by omega) w sz hI (by omega) (by omega) kk)
end LC
