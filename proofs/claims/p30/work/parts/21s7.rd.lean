/-! READS ON BOTH SIDES -/
section RDX
variable {g : xg_T} {x x' : Nat → Nat → Int32} {la la' : Nat → Nat → Nat} {t t' v tm : Nat → Int32} {r rm : Option Value} {E : String} {z : Int32} {n : Nat} {ln : Nat → Nat} {lf : Nat → Nat → Int32} {k : Nat}
theorem AL.t2 {x : Nat → Nat → Int32} {t tm v sv pa : Nat → Int32} {LN : Nat → Nat → Nat} {LF : Nat → Nat → Nat → Int32} {c0 : Nat} (hA : AL x t LN LF c0 tm v sv pa) : t 2 = tm 2 := by
  obtain ⟨-, -, -, h, -, -, e1, e2, -⟩ := hA
  exact e1.trans e2.symm
theorem sOf_n {y u : Nat → Int32} (hA : alk y u) {a : Nat} (ha : a < 6) : sOf y (nI a) = 0 + u (10 + 3 * a + 0) + u (10 + 3 * a + 1) + u (10 + 3 * a + 2) := by
  unfold sOf
  rw [show (0 : Int32) = nI 0 from rfl, show (1 : Int32) = nI 1 from rfl, show (2 : Int32) = nI 2 from rfl, sGet_n ha (by omega), sGet_n ha (by omega), sGet_n ha (by omega), hA.at (by omega), hA.at (by omega), hA.at (by omega)]
theorem stored_eq {y u : Nat → Int32} (hA : alk y u) : sAll y = rStored u 18 := by
  unfold sAll
  rw [show (0 : Int32) = nI 0 from rfl, show (1 : Int32) = nI 1 from rfl, show (2 : Int32) = nI 2 from rfl, show (3 : Int32) = nI 3 from rfl, show (4 : Int32) = nI 4 from rfl, show (5 : Int32) = nI 5 from rfl]
  rw [sOf_n hA (a := 0) (by omega), sOf_n hA (a := 1) (by omega), sOf_n hA (a := 2) (by omega), sOf_n hA (a := 3) (by omega), sOf_n hA (a := 4) (by omega), sOf_n hA (a := 5) (by omega)]
  show _ = hFold (fun _ => true) (fun k => u (10 + k)) 18
  simp only [hFold, if_true, show nI 0 = 0 from rfl, Int32.zero_add, ← Int32.add_assoc]
theorem packed_eq {y u : Nat → Int32} (hA : alk y u) {n : Nat} (hn : n ≤ 20) (e3 : y 3 = nI n) : packedN y 20 = rPacked u n := by
  refine hFold_al (fun k hk => ⟨?_, (hA.row (hA.lt hn e3 hk) (by omega) (by omega)).symm⟩) (fun k hk h20 => ?_) hn
  · show decide (¬ y (28 + 9 * k + 7) = -1 ∧ ¬ y (28 + 9 * k + 7) = 3) = decide (¬ u (28 + 9 * k + 7) = 3)
    rw [hA.row (hA.lt hn e3 hk) (by omega) (by omega)]
    exact decide_eq_decide.mpr ⟨fun q => q.2, fun q => ⟨(hA.2.2 k (by omega)).2 (hA.lt hn e3 hk), q⟩⟩
  · show decide (¬ y (28 + 9 * k + 7) = -1 ∧ ¬ y (28 + 9 * k + 7) = 3) = false
    rw [hA.blank hn e3 hk h20 (by omega)]
    decide
theorem st_account {a : Int32} (h : L_X7_account g x la t a n r x' la' t') : x' = x ∧ la' = la ∧ t' = t := by
  rcases h with ⟨-, -, h⟩ | ⟨_, -, -, -, h⟩ | ⟨_, -, -, -, h⟩ | ⟨-, -, h⟩ | ⟨-, -, h⟩ | ⟨-, -, h⟩ | ⟨-, -, h⟩ | ⟨-, -, h⟩ | ⟨-, -, h⟩ | ⟨_, -, -, -, h⟩ | ⟨_, -, -, -, h⟩ | ⟨_, -, -, -, h⟩ | ⟨_, -, -, -, h⟩ | ⟨-, -, h⟩ | ⟨-, -, h⟩ | ⟨-, -, h⟩ | ⟨-, -, h⟩ | ⟨-, -, h⟩
  all_goals exact h
theorem sx_account {a : Int32} (h : E_X7_account g x la t a n E x' la' t') : x' = x ∧ la' = la ∧ t' = t := by
  obtain ⟨-, -, h⟩ := h
  exact h
theorem kc_account {a : Int32} (hE : E_X7_account g x la t a n E x' la' t') : ¬ kc [("java/lang/IllegalArgumentException", 1)] E = 0 := by
  obtain ⟨-, rfl, -⟩ := hE
  decide +kernel
theorem rd_account_n (wh : Int32) (hA : hAl (x 0) ln lf v) (h9 : tm 9 = nI n) (h2 : t 2 = tm 2) (hQ : Q_X8_account n tm v wh rm z) (hE : E_X7_account g x la t wh n E x' la' t') : z = kc [("java/lang/IllegalArgumentException", 1)] E := by
  obtain ⟨hw, rfl, -⟩ := hE
  rcases hQ with ⟨-, q1, -⟩ | ⟨rfl, -⟩ | ⟨rfl, -⟩ | ⟨_, rfl, -⟩ | ⟨rfl, -⟩ | ⟨rfl, -⟩ | ⟨rfl, -⟩ | ⟨rfl, -⟩ | ⟨rfl, -⟩ | ⟨_, rfl, -⟩ | ⟨_, rfl, -⟩ | ⟨_, rfl, -⟩ | ⟨_, rfl, -⟩ | ⟨_, rfl, -⟩ | ⟨rfl, -⟩ | ⟨rfl, -⟩ | ⟨rfl, -⟩ | ⟨rfl, -⟩ | ⟨rfl, -⟩
  · exact q1.trans (by decide +kernel)
  all_goals exact absurd hw (by decide)
theorem ac_0 (wh : Int32) (hw : wh.toInt = 0) (hA : hAl (x 0) ln lf v) (h9 : tm 9 = nI n) (h2 : t 2 = tm 2) (hQ : Q_X8_account n tm v wh rm z)  : some (Value.int (x 0 0)) = rm ∧ z = 0 := by
  obtain rfl : wh = 0 := Int32.toInt_inj.mp (hw.trans rfl)
  rcases hQ with ⟨q, -⟩ | ⟨-, q1, q2⟩ | ⟨q, -⟩ | ⟨_, q, -⟩ | ⟨q, -⟩ | ⟨q, -⟩ | ⟨q, -⟩ | ⟨q, -⟩ | ⟨q, -⟩ | ⟨_, q, -⟩ | ⟨_, q, -⟩ | ⟨_, q, -⟩ | ⟨_, q, -⟩ | ⟨_, q, -⟩ | ⟨q, -⟩ | ⟨q, -⟩ | ⟨q, -⟩ | ⟨q, -⟩ | ⟨q, -⟩
  · exact absurd q (by decide)
  · exact ⟨by rw [q2, hA.1.at (by omega)], q1⟩
  · exact absurd q (by decide)
  · exact absurd q (by decide)
  · exact absurd q (by decide)
  · exact absurd q (by decide)
  · exact absurd q (by decide)
  · exact absurd q (by decide)
  · exact absurd q (by decide)
  · exact absurd q (by decide)
  · exact absurd q (by decide)
  · exact absurd q (by decide)
  · exact absurd q (by decide)
  · exact absurd q (by decide)
  · exact absurd q (by decide)
  · exact absurd q (by decide)
  · exact absurd q (by decide)
  · exact absurd q (by decide)
  · exact absurd q (by decide)
theorem ac_1 (wh : Int32) (hw : wh.toInt = 1) (hA : hAl (x 0) ln lf v) (h9 : tm 9 = nI n) (h2 : t 2 = tm 2) (hQ : Q_X8_account n tm v wh rm z) {v1 : Int32} (hv : some (Value.int v1) = some (Value.int (sAll (x 0)))) : some (Value.int v1) = rm ∧ z = 0 := by
  obtain rfl : wh = 1 := Int32.toInt_inj.mp (hw.trans rfl)
  rcases hQ with ⟨q, -⟩ | ⟨q, -⟩ | ⟨-, q1, q2⟩ | ⟨_, q, -⟩ | ⟨q, -⟩ | ⟨q, -⟩ | ⟨q, -⟩ | ⟨q, -⟩ | ⟨q, -⟩ | ⟨_, q, -⟩ | ⟨_, q, -⟩ | ⟨_, q, -⟩ | ⟨_, q, -⟩ | ⟨_, q, -⟩ | ⟨q, -⟩ | ⟨q, -⟩ | ⟨q, -⟩ | ⟨q, -⟩ | ⟨q, -⟩
  · exact absurd q (by decide)
  · exact absurd q (by decide)
  · exact ⟨by rw [q2, hv, stored_eq hA.1], q1⟩
  · exact absurd q (by decide)
  · exact absurd q (by decide)
  · exact absurd q (by decide)
  · exact absurd q (by decide)
  · exact absurd q (by decide)
  · exact absurd q (by decide)
  · exact absurd q (by decide)
  · exact absurd q (by decide)
  · exact absurd q (by decide)
  · exact absurd q (by decide)
  · exact absurd q (by decide)
  · exact absurd q (by decide)
  · exact absurd q (by decide)
  · exact absurd q (by decide)
  · exact absurd q (by decide)
  · exact absurd q (by decide)
theorem ac_2 (wh : Int32) (hw : wh.toInt = 2) (hA : hAl (x 0) ln lf v) (h9 : tm 9 = nI n) (h2 : t 2 = tm 2) (hQ : Q_X8_account n tm v wh rm z) {v1 : Int32} (hv : some (Value.int v1) = some (Value.int (packedN (x 0) 20))) : some (Value.int v1) = rm ∧ z = 0 := by
  obtain rfl : wh = 2 := Int32.toInt_inj.mp (hw.trans rfl)
  rcases hQ with ⟨q, -⟩ | ⟨q, -⟩ | ⟨q, -⟩ | ⟨m, -, hm, e3, q1, q2⟩ | ⟨q, -⟩ | ⟨q, -⟩ | ⟨q, -⟩ | ⟨q, -⟩ | ⟨q, -⟩ | ⟨_, q, -⟩ | ⟨_, q, -⟩ | ⟨_, q, -⟩ | ⟨_, q, -⟩ | ⟨_, q, -⟩ | ⟨q, -⟩ | ⟨q, -⟩ | ⟨q, -⟩ | ⟨q, -⟩ | ⟨q, -⟩
  · exact absurd q (by decide)
  · exact absurd q (by decide)
  · exact absurd q (by decide)
  · exact ⟨by rw [q2, hv, packed_eq hA.1 hm ((hA.1.at (q := 3) (by omega)).symm.trans e3)], q1⟩
  · exact absurd q (by decide)
  · exact absurd q (by decide)
  · exact absurd q (by decide)
  · exact absurd q (by decide)
  · exact absurd q (by decide)
  · exact absurd q (by decide)
  · exact absurd q (by decide)
  · exact absurd q (by decide)
  · exact absurd q (by decide)
  · exact absurd q (by decide)
  · exact absurd q (by decide)
  · exact absurd q (by decide)
  · exact absurd q (by decide)
  · exact absurd q (by decide)
  · exact absurd q (by decide)
theorem ac_3 (wh : Int32) (hw : wh.toInt = 3) (hA : hAl (x 0) ln lf v) (h9 : tm 9 = nI n) (h2 : t 2 = tm 2) (hQ : Q_X8_account n tm v wh rm z)  : some (Value.int (x 0 7)) = rm ∧ z = 0 := by
  obtain rfl : wh = 3 := Int32.toInt_inj.mp (hw.trans rfl)
  rcases hQ with ⟨q, -⟩ | ⟨q, -⟩ | ⟨q, -⟩ | ⟨_, q, -⟩ | ⟨-, q1, q2⟩ | ⟨q, -⟩ | ⟨q, -⟩ | ⟨q, -⟩ | ⟨q, -⟩ | ⟨_, q, -⟩ | ⟨_, q, -⟩ | ⟨_, q, -⟩ | ⟨_, q, -⟩ | ⟨_, q, -⟩ | ⟨q, -⟩ | ⟨q, -⟩ | ⟨q, -⟩ | ⟨q, -⟩ | ⟨q, -⟩
  · exact absurd q (by decide)
  · exact absurd q (by decide)
  · exact absurd q (by decide)
  · exact absurd q (by decide)
  · exact ⟨by rw [q2, hA.1.at (by omega)], q1⟩
  · exact absurd q (by decide)
  · exact absurd q (by decide)
  · exact absurd q (by decide)
  · exact absurd q (by decide)
  · exact absurd q (by decide)
  · exact absurd q (by decide)
  · exact absurd q (by decide)
  · exact absurd q (by decide)
  · exact absurd q (by decide)
  · exact absurd q (by decide)
  · exact absurd q (by decide)
  · exact absurd q (by decide)
  · exact absurd q (by decide)
  · exact absurd q (by decide)
theorem ac_4 (wh : Int32) (hw : wh.toInt = 4) (hA : hAl (x 0) ln lf v) (h9 : tm 9 = nI n) (h2 : t 2 = tm 2) (hQ : Q_X8_account n tm v wh rm z)  : some (Value.int (x 0 8)) = rm ∧ z = 0 := by
  obtain rfl : wh = 4 := Int32.toInt_inj.mp (hw.trans rfl)
  rcases hQ with ⟨q, -⟩ | ⟨q, -⟩ | ⟨q, -⟩ | ⟨_, q, -⟩ | ⟨q, -⟩ | ⟨-, q1, q2⟩ | ⟨q, -⟩ | ⟨q, -⟩ | ⟨q, -⟩ | ⟨_, q, -⟩ | ⟨_, q, -⟩ | ⟨_, q, -⟩ | ⟨_, q, -⟩ | ⟨_, q, -⟩ | ⟨q, -⟩ | ⟨q, -⟩ | ⟨q, -⟩ | ⟨q, -⟩ | ⟨q, -⟩
  · exact absurd q (by decide)
  · exact absurd q (by decide)
  · exact absurd q (by decide)
  · exact absurd q (by decide)
  · exact absurd q (by decide)
  · exact ⟨by rw [q2, hA.1.at (by omega)], q1⟩
  · exact absurd q (by decide)
  · exact absurd q (by decide)
  · exact absurd q (by decide)
  · exact absurd q (by decide)
  · exact absurd q (by decide)
  · exact absurd q (by decide)
  · exact absurd q (by decide)
  · exact absurd q (by decide)
  · exact absurd q (by decide)
  · exact absurd q (by decide)
  · exact absurd q (by decide)
  · exact absurd q (by decide)
  · exact absurd q (by decide)
theorem ac_5 (wh : Int32) (hw : wh.toInt = 5) (hA : hAl (x 0) ln lf v) (h9 : tm 9 = nI n) (h2 : t 2 = tm 2) (hQ : Q_X8_account n tm v wh rm z)  : some (Value.int (x 0 6)) = rm ∧ z = 0 := by
  obtain rfl : wh = 5 := Int32.toInt_inj.mp (hw.trans rfl)
  rcases hQ with ⟨q, -⟩ | ⟨q, -⟩ | ⟨q, -⟩ | ⟨_, q, -⟩ | ⟨q, -⟩ | ⟨q, -⟩ | ⟨-, q1, q2⟩ | ⟨q, -⟩ | ⟨q, -⟩ | ⟨_, q, -⟩ | ⟨_, q, -⟩ | ⟨_, q, -⟩ | ⟨_, q, -⟩ | ⟨_, q, -⟩ | ⟨q, -⟩ | ⟨q, -⟩ | ⟨q, -⟩ | ⟨q, -⟩ | ⟨q, -⟩
  · exact absurd q (by decide)
  · exact absurd q (by decide)
  · exact absurd q (by decide)
  · exact absurd q (by decide)
  · exact absurd q (by decide)
  · exact absurd q (by decide)
  · exact ⟨by rw [q2, hA.1.at (by omega)], q1⟩
  · exact absurd q (by decide)
  · exact absurd q (by decide)
  · exact absurd q (by decide)
  · exact absurd q (by decide)
  · exact absurd q (by decide)
  · exact absurd q (by decide)
  · exact absurd q (by decide)
  · exact absurd q (by decide)
  · exact absurd q (by decide)
  · exact absurd q (by decide)
  · exact absurd q (by decide)
  · exact absurd q (by decide)
theorem ac_6 (wh : Int32) (hw : wh.toInt = 6) (hA : hAl (x 0) ln lf v) (h9 : tm 9 = nI n) (h2 : t 2 = tm 2) (hQ : Q_X8_account n tm v wh rm z)  : some (Value.int (x 0 1)) = rm ∧ z = 0 := by
  obtain rfl : wh = 6 := Int32.toInt_inj.mp (hw.trans rfl)
  rcases hQ with ⟨q, -⟩ | ⟨q, -⟩ | ⟨q, -⟩ | ⟨_, q, -⟩ | ⟨q, -⟩ | ⟨q, -⟩ | ⟨q, -⟩ | ⟨-, q1, q2⟩ | ⟨q, -⟩ | ⟨_, q, -⟩ | ⟨_, q, -⟩ | ⟨_, q, -⟩ | ⟨_, q, -⟩ | ⟨_, q, -⟩ | ⟨q, -⟩ | ⟨q, -⟩ | ⟨q, -⟩ | ⟨q, -⟩ | ⟨q, -⟩
  · exact absurd q (by decide)
  · exact absurd q (by decide)
  · exact absurd q (by decide)
  · exact absurd q (by decide)
  · exact absurd q (by decide)
  · exact absurd q (by decide)
  · exact absurd q (by decide)
  · exact ⟨by rw [q2, hA.1.at (by omega)], q1⟩
  · exact absurd q (by decide)
  · exact absurd q (by decide)
  · exact absurd q (by decide)
  · exact absurd q (by decide)
  · exact absurd q (by decide)
  · exact absurd q (by decide)
  · exact absurd q (by decide)
  · exact absurd q (by decide)
  · exact absurd q (by decide)
  · exact absurd q (by decide)
  · exact absurd q (by decide)
theorem ac_7 (wh : Int32) (hw : wh.toInt = 7) (hA : hAl (x 0) ln lf v) (h9 : tm 9 = nI n) (h2 : t 2 = tm 2) (hQ : Q_X8_account n tm v wh rm z)  : some (Value.int (x 0 2)) = rm ∧ z = 0 := by
  obtain rfl : wh = 7 := Int32.toInt_inj.mp (hw.trans rfl)
  rcases hQ with ⟨q, -⟩ | ⟨q, -⟩ | ⟨q, -⟩ | ⟨_, q, -⟩ | ⟨q, -⟩ | ⟨q, -⟩ | ⟨q, -⟩ | ⟨q, -⟩ | ⟨-, q1, q2⟩ | ⟨_, q, -⟩ | ⟨_, q, -⟩ | ⟨_, q, -⟩ | ⟨_, q, -⟩ | ⟨_, q, -⟩ | ⟨q, -⟩ | ⟨q, -⟩ | ⟨q, -⟩ | ⟨q, -⟩ | ⟨q, -⟩
  · exact absurd q (by decide)
  · exact absurd q (by decide)
  · exact absurd q (by decide)
  · exact absurd q (by decide)
  · exact absurd q (by decide)
  · exact absurd q (by decide)
  · exact absurd q (by decide)
  · exact absurd q (by decide)
  · exact ⟨by rw [q2, hA.1.at (by omega)], q1⟩
  · exact absurd q (by decide)
  · exact absurd q (by decide)
  · exact absurd q (by decide)
  · exact absurd q (by decide)
  · exact absurd q (by decide)
  · exact absurd q (by decide)
  · exact absurd q (by decide)
  · exact absurd q (by decide)
  · exact absurd q (by decide)
  · exact absurd q (by decide)
theorem ac_8 (wh : Int32) (hw : wh.toInt = 8) (hA : hAl (x 0) ln lf v) (h9 : tm 9 = nI n) (h2 : t 2 = tm 2) (hQ : Q_X8_account n tm v wh rm z)  : some (Value.int (x 0 3)) = rm ∧ z = 0 := by
  obtain rfl : wh = 8 := Int32.toInt_inj.mp (hw.trans rfl)
  rcases hQ with ⟨q, -⟩ | ⟨q, -⟩ | ⟨q, -⟩ | ⟨_, q, -⟩ | ⟨q, -⟩ | ⟨q, -⟩ | ⟨q, -⟩ | ⟨q, -⟩ | ⟨q, -⟩ | ⟨m, -, e3, hm, q1, q2⟩ | ⟨_, q, -⟩ | ⟨_, q, -⟩ | ⟨_, q, -⟩ | ⟨_, q, -⟩ | ⟨q, -⟩ | ⟨q, -⟩ | ⟨q, -⟩ | ⟨q, -⟩ | ⟨q, -⟩
  · exact absurd q (by decide)
  · exact absurd q (by decide)
  · exact absurd q (by decide)
  · exact absurd q (by decide)
  · exact absurd q (by decide)
  · exact absurd q (by decide)
  · exact absurd q (by decide)
  · exact absurd q (by decide)
  · exact absurd q (by decide)
  · exact ⟨by rw [q2, ← e3, hA.1.at (by omega)], q1⟩
  · exact absurd q (by decide)
  · exact absurd q (by decide)
  · exact absurd q (by decide)
  · exact absurd q (by decide)
  · exact absurd q (by decide)
  · exact absurd q (by decide)
  · exact absurd q (by decide)
  · exact absurd q (by decide)
  · exact absurd q (by decide)
theorem ac_9 (wh : Int32) (hw : wh.toInt = 9) (hA : hAl (x 0) ln lf v) (h9 : tm 9 = nI n) (h2 : t 2 = tm 2) (hQ : Q_X8_account n tm v wh rm z) {v1 : Int32} (hv : some (Value.int v1) = some (Value.int (nAt (x 0) 0 20))) : some (Value.int v1) = rm ∧ z = 0 := by
  obtain rfl : wh = 9 := Int32.toInt_inj.mp (hw.trans rfl)
  rcases hQ with ⟨q, -⟩ | ⟨q, -⟩ | ⟨q, -⟩ | ⟨_, q, -⟩ | ⟨q, -⟩ | ⟨q, -⟩ | ⟨q, -⟩ | ⟨q, -⟩ | ⟨q, -⟩ | ⟨_, q, -⟩ | ⟨m, -, hm, e3, q1, q2⟩ | ⟨_, q, -⟩ | ⟨_, q, -⟩ | ⟨_, q, -⟩ | ⟨q, -⟩ | ⟨q, -⟩ | ⟨q, -⟩ | ⟨q, -⟩ | ⟨q, -⟩
  · exact absurd q (by decide)
  · exact absurd q (by decide)
  · exact absurd q (by decide)
  · exact absurd q (by decide)
  · exact absurd q (by decide)
  · exact absurd q (by decide)
  · exact absurd q (by decide)
  · exact absurd q (by decide)
  · exact absurd q (by decide)
  · exact absurd q (by decide)
  · exact ⟨by rw [q2, hv, nAt_eq hA.1 hm ((hA.1.at (q := 3) (by omega)).symm.trans e3) (by decide)], q1⟩
  · exact absurd q (by decide)
  · exact absurd q (by decide)
  · exact absurd q (by decide)
  · exact absurd q (by decide)
  · exact absurd q (by decide)
  · exact absurd q (by decide)
  · exact absurd q (by decide)
  · exact absurd q (by decide)
theorem ac_10 (wh : Int32) (hw : wh.toInt = 10) (hA : hAl (x 0) ln lf v) (h9 : tm 9 = nI n) (h2 : t 2 = tm 2) (hQ : Q_X8_account n tm v wh rm z) {v1 : Int32} (hv : some (Value.int v1) = some (Value.int (nAt (x 0) 1 20))) : some (Value.int v1) = rm ∧ z = 0 := by
  obtain rfl : wh = 10 := Int32.toInt_inj.mp (hw.trans rfl)
  rcases hQ with ⟨q, -⟩ | ⟨q, -⟩ | ⟨q, -⟩ | ⟨_, q, -⟩ | ⟨q, -⟩ | ⟨q, -⟩ | ⟨q, -⟩ | ⟨q, -⟩ | ⟨q, -⟩ | ⟨_, q, -⟩ | ⟨_, q, -⟩ | ⟨m, -, hm, e3, q1, q2⟩ | ⟨_, q, -⟩ | ⟨_, q, -⟩ | ⟨q, -⟩ | ⟨q, -⟩ | ⟨q, -⟩ | ⟨q, -⟩ | ⟨q, -⟩
  · exact absurd q (by decide)
  · exact absurd q (by decide)
  · exact absurd q (by decide)
  · exact absurd q (by decide)
  · exact absurd q (by decide)
  · exact absurd q (by decide)
  · exact absurd q (by decide)
  · exact absurd q (by decide)
  · exact absurd q (by decide)
  · exact absurd q (by decide)
  · exact absurd q (by decide)
  · exact ⟨by rw [q2, hv, nAt_eq hA.1 hm ((hA.1.at (q := 3) (by omega)).symm.trans e3) (by decide)], q1⟩
  · exact absurd q (by decide)
  · exact absurd q (by decide)
  · exact absurd q (by decide)
  · exact absurd q (by decide)
  · exact absurd q (by decide)
  · exact absurd q (by decide)
  · exact absurd q (by decide)
theorem ac_11 (wh : Int32) (hw : wh.toInt = 11) (hA : hAl (x 0) ln lf v) (h9 : tm 9 = nI n) (h2 : t 2 = tm 2) (hQ : Q_X8_account n tm v wh rm z) {v1 : Int32} (hv : some (Value.int v1) = some (Value.int (nAt (x 0) 2 20))) : some (Value.int v1) = rm ∧ z = 0 := by
  obtain rfl : wh = 11 := Int32.toInt_inj.mp (hw.trans rfl)
  rcases hQ with ⟨q, -⟩ | ⟨q, -⟩ | ⟨q, -⟩ | ⟨_, q, -⟩ | ⟨q, -⟩ | ⟨q, -⟩ | ⟨q, -⟩ | ⟨q, -⟩ | ⟨q, -⟩ | ⟨_, q, -⟩ | ⟨_, q, -⟩ | ⟨_, q, -⟩ | ⟨m, -, hm, e3, q1, q2⟩ | ⟨_, q, -⟩ | ⟨q, -⟩ | ⟨q, -⟩ | ⟨q, -⟩ | ⟨q, -⟩ | ⟨q, -⟩
  · exact absurd q (by decide)
  · exact absurd q (by decide)
  · exact absurd q (by decide)
  · exact absurd q (by decide)
  · exact absurd q (by decide)
  · exact absurd q (by decide)
  · exact absurd q (by decide)
  · exact absurd q (by decide)
  · exact absurd q (by decide)
  · exact absurd q (by decide)
  · exact absurd q (by decide)
  · exact absurd q (by decide)
  · exact ⟨by rw [q2, hv, nAt_eq hA.1 hm ((hA.1.at (q := 3) (by omega)).symm.trans e3) (by decide)], q1⟩
  · exact absurd q (by decide)
  · exact absurd q (by decide)
  · exact absurd q (by decide)
  · exact absurd q (by decide)
  · exact absurd q (by decide)
  · exact absurd q (by decide)
theorem ac_12 (wh : Int32) (hw : wh.toInt = 12) (hA : hAl (x 0) ln lf v) (h9 : tm 9 = nI n) (h2 : t 2 = tm 2) (hQ : Q_X8_account n tm v wh rm z) {v1 : Int32} (hv : some (Value.int v1) = some (Value.int (hRoom (x 0) 20))) : some (Value.int v1) = rm ∧ z = 0 := by
  obtain rfl : wh = 12 := Int32.toInt_inj.mp (hw.trans rfl)
  rcases hQ with ⟨q, -⟩ | ⟨q, -⟩ | ⟨q, -⟩ | ⟨_, q, -⟩ | ⟨q, -⟩ | ⟨q, -⟩ | ⟨q, -⟩ | ⟨q, -⟩ | ⟨q, -⟩ | ⟨_, q, -⟩ | ⟨_, q, -⟩ | ⟨_, q, -⟩ | ⟨_, q, -⟩ | ⟨m, -, hm, e3, q1, q2⟩ | ⟨q, -⟩ | ⟨q, -⟩ | ⟨q, -⟩ | ⟨q, -⟩ | ⟨q, -⟩
  · exact absurd q (by decide)
  · exact absurd q (by decide)
  · exact absurd q (by decide)
  · exact absurd q (by decide)
  · exact absurd q (by decide)
  · exact absurd q (by decide)
  · exact absurd q (by decide)
  · exact absurd q (by decide)
  · exact absurd q (by decide)
  · exact absurd q (by decide)
  · exact absurd q (by decide)
  · exact absurd q (by decide)
  · exact absurd q (by decide)
  · exact ⟨by rw [q2, hv, hRoom_eq hA.1 hm ((hA.1.at (q := 3) (by omega)).symm.trans e3)], q1⟩
  · exact absurd q (by decide)
  · exact absurd q (by decide)
  · exact absurd q (by decide)
  · exact absurd q (by decide)
  · exact absurd q (by decide)
theorem ac_13 (wh : Int32) (hw : wh.toInt = 13) (hA : hAl (x 0) ln lf v) (h9 : tm 9 = nI n) (h2 : t 2 = tm 2) (hQ : Q_X8_account n tm v wh rm z)  : some (Value.int (x 0 9)) = rm ∧ z = 0 := by
  obtain rfl : wh = 13 := Int32.toInt_inj.mp (hw.trans rfl)
  rcases hQ with ⟨q, -⟩ | ⟨q, -⟩ | ⟨q, -⟩ | ⟨_, q, -⟩ | ⟨q, -⟩ | ⟨q, -⟩ | ⟨q, -⟩ | ⟨q, -⟩ | ⟨q, -⟩ | ⟨_, q, -⟩ | ⟨_, q, -⟩ | ⟨_, q, -⟩ | ⟨_, q, -⟩ | ⟨_, q, -⟩ | ⟨-, q1, q2⟩ | ⟨q, -⟩ | ⟨q, -⟩ | ⟨q, -⟩ | ⟨q, -⟩
  · exact absurd q (by decide)
  · exact absurd q (by decide)
  · exact absurd q (by decide)
  · exact absurd q (by decide)
  · exact absurd q (by decide)
  · exact absurd q (by decide)
  · exact absurd q (by decide)
  · exact absurd q (by decide)
  · exact absurd q (by decide)
  · exact absurd q (by decide)
  · exact absurd q (by decide)
  · exact absurd q (by decide)
  · exact absurd q (by decide)
  · exact absurd q (by decide)
  · exact ⟨by rw [q2, hA.1.at (by omega)], q1⟩
  · exact absurd q (by decide)
  · exact absurd q (by decide)
  · exact absurd q (by decide)
  · exact absurd q (by decide)
theorem ac_14 (wh : Int32) (hw : wh.toInt = 14) (hA : hAl (x 0) ln lf v) (h9 : tm 9 = nI n) (h2 : t 2 = tm 2) (hQ : Q_X8_account n tm v wh rm z)  : some (Value.int (x 0 4)) = rm ∧ z = 0 := by
  obtain rfl : wh = 14 := Int32.toInt_inj.mp (hw.trans rfl)
  rcases hQ with ⟨q, -⟩ | ⟨q, -⟩ | ⟨q, -⟩ | ⟨_, q, -⟩ | ⟨q, -⟩ | ⟨q, -⟩ | ⟨q, -⟩ | ⟨q, -⟩ | ⟨q, -⟩ | ⟨_, q, -⟩ | ⟨_, q, -⟩ | ⟨_, q, -⟩ | ⟨_, q, -⟩ | ⟨_, q, -⟩ | ⟨q, -⟩ | ⟨-, q1, q2⟩ | ⟨q, -⟩ | ⟨q, -⟩ | ⟨q, -⟩
  · exact absurd q (by decide)
  · exact absurd q (by decide)
  · exact absurd q (by decide)
  · exact absurd q (by decide)
  · exact absurd q (by decide)
  · exact absurd q (by decide)
  · exact absurd q (by decide)
  · exact absurd q (by decide)
  · exact absurd q (by decide)
  · exact absurd q (by decide)
  · exact absurd q (by decide)
  · exact absurd q (by decide)
  · exact absurd q (by decide)
  · exact absurd q (by decide)
  · exact absurd q (by decide)
  · exact ⟨by rw [q2, hA.1.at (by omega)], q1⟩
  · exact absurd q (by decide)
  · exact absurd q (by decide)
  · exact absurd q (by decide)
theorem ac_15 (wh : Int32) (hw : wh.toInt = 15) (hA : hAl (x 0) ln lf v) (h9 : tm 9 = nI n) (h2 : t 2 = tm 2) (hQ : Q_X8_account n tm v wh rm z)  : some (Value.int (x 0 5)) = rm ∧ z = 0 := by
  obtain rfl : wh = 15 := Int32.toInt_inj.mp (hw.trans rfl)
  rcases hQ with ⟨q, -⟩ | ⟨q, -⟩ | ⟨q, -⟩ | ⟨_, q, -⟩ | ⟨q, -⟩ | ⟨q, -⟩ | ⟨q, -⟩ | ⟨q, -⟩ | ⟨q, -⟩ | ⟨_, q, -⟩ | ⟨_, q, -⟩ | ⟨_, q, -⟩ | ⟨_, q, -⟩ | ⟨_, q, -⟩ | ⟨q, -⟩ | ⟨q, -⟩ | ⟨-, q1, q2⟩ | ⟨q, -⟩ | ⟨q, -⟩
  · exact absurd q (by decide)
  · exact absurd q (by decide)
  · exact absurd q (by decide)
  · exact absurd q (by decide)
  · exact absurd q (by decide)
  · exact absurd q (by decide)
  · exact absurd q (by decide)
  · exact absurd q (by decide)
  · exact absurd q (by decide)
  · exact absurd q (by decide)
  · exact absurd q (by decide)
  · exact absurd q (by decide)
  · exact absurd q (by decide)
  · exact absurd q (by decide)
  · exact absurd q (by decide)
  · exact absurd q (by decide)
  · exact ⟨by rw [q2, hA.1.at (by omega)], q1⟩
  · exact absurd q (by decide)
  · exact absurd q (by decide)
theorem ac_16 (wh : Int32) (hw : wh.toInt = 16) (hA : hAl (x 0) ln lf v) (h9 : tm 9 = nI n) (h2 : t 2 = tm 2) (hQ : Q_X8_account n tm v wh rm z)  : some (Value.int (nI n)) = rm ∧ z = 0 := by
  obtain rfl : wh = 16 := Int32.toInt_inj.mp (hw.trans rfl)
  rcases hQ with ⟨q, -⟩ | ⟨q, -⟩ | ⟨q, -⟩ | ⟨_, q, -⟩ | ⟨q, -⟩ | ⟨q, -⟩ | ⟨q, -⟩ | ⟨q, -⟩ | ⟨q, -⟩ | ⟨_, q, -⟩ | ⟨_, q, -⟩ | ⟨_, q, -⟩ | ⟨_, q, -⟩ | ⟨_, q, -⟩ | ⟨q, -⟩ | ⟨q, -⟩ | ⟨q, -⟩ | ⟨-, q1, q2⟩ | ⟨q, -⟩
  · exact absurd q (by decide)
  · exact absurd q (by decide)
  · exact absurd q (by decide)
  · exact absurd q (by decide)
  · exact absurd q (by decide)
  · exact absurd q (by decide)
  · exact absurd q (by decide)
  · exact absurd q (by decide)
  · exact absurd q (by decide)
  · exact absurd q (by decide)
  · exact absurd q (by decide)
  · exact absurd q (by decide)
  · exact absurd q (by decide)
  · exact absurd q (by decide)
  · exact absurd q (by decide)
  · exact absurd q (by decide)
  · exact absurd q (by decide)
  · exact ⟨by rw [q2, h9], q1⟩
  · exact absurd q (by decide)
theorem ac_17 (wh : Int32) (hw : wh.toInt = 17) (hA : hAl (x 0) ln lf v) (h9 : tm 9 = nI n) (h2 : t 2 = tm 2) (hQ : Q_X8_account n tm v wh rm z)  : some (Value.int (t 2)) = rm ∧ z = 0 := by
  obtain rfl : wh = 17 := Int32.toInt_inj.mp (hw.trans rfl)
  rcases hQ with ⟨q, -⟩ | ⟨q, -⟩ | ⟨q, -⟩ | ⟨_, q, -⟩ | ⟨q, -⟩ | ⟨q, -⟩ | ⟨q, -⟩ | ⟨q, -⟩ | ⟨q, -⟩ | ⟨_, q, -⟩ | ⟨_, q, -⟩ | ⟨_, q, -⟩ | ⟨_, q, -⟩ | ⟨_, q, -⟩ | ⟨q, -⟩ | ⟨q, -⟩ | ⟨q, -⟩ | ⟨q, -⟩ | ⟨-, q1, q2⟩
  · exact absurd q (by decide)
  · exact absurd q (by decide)
  · exact absurd q (by decide)
  · exact absurd q (by decide)
  · exact absurd q (by decide)
  · exact absurd q (by decide)
  · exact absurd q (by decide)
  · exact absurd q (by decide)
  · exact absurd q (by decide)
  · exact absurd q (by decide)
  · exact absurd q (by decide)
  · exact absurd q (by decide)
  · exact absurd q (by decide)
  · exact absurd q (by decide)
  · exact absurd q (by decide)
  · exact absurd q (by decide)
  · exact absurd q (by decide)
  · exact absurd q (by decide)
  · exact ⟨by rw [q2, h2], q1⟩
theorem rd_account_y (wh : Int32) (hA : hAl (x 0) ln lf v) (h9 : tm 9 = nI n) (h2 : t 2 = tm 2) (hQ : Q_X8_account n tm v wh rm z) (hL : L_X7_account g x la t wh n r x' la' t') : r = rm ∧ z = 0 := by
  rcases hL with ⟨hw, rfl, -⟩ | ⟨v1, hw, hv, rfl, -⟩ | ⟨v1, hw, hv, rfl, -⟩ | ⟨hw, rfl, -⟩ | ⟨hw, rfl, -⟩ | ⟨hw, rfl, -⟩ | ⟨hw, rfl, -⟩ | ⟨hw, rfl, -⟩ | ⟨hw, rfl, -⟩ | ⟨v1, hw, hv, rfl, -⟩ | ⟨v1, hw, hv, rfl, -⟩ | ⟨v1, hw, hv, rfl, -⟩ | ⟨v1, hw, hv, rfl, -⟩ | ⟨hw, rfl, -⟩ | ⟨hw, rfl, -⟩ | ⟨hw, rfl, -⟩ | ⟨hw, rfl, -⟩ | ⟨hw, rfl, -⟩
  · exact ac_0 wh hw hA h9 h2 hQ
  · exact ac_1 wh hw hA h9 h2 hQ hv
  · exact ac_2 wh hw hA h9 h2 hQ hv
  · exact ac_3 wh hw hA h9 h2 hQ
  · exact ac_4 wh hw hA h9 h2 hQ
  · exact ac_5 wh hw hA h9 h2 hQ
  · exact ac_6 wh hw hA h9 h2 hQ
  · exact ac_7 wh hw hA h9 h2 hQ
  · exact ac_8 wh hw hA h9 h2 hQ
  · exact ac_9 wh hw hA h9 h2 hQ hv
  · exact ac_10 wh hw hA h9 h2 hQ hv
  · exact ac_11 wh hw hA h9 h2 hQ hv
  · exact ac_12 wh hw hA h9 h2 hQ hv
  · exact ac_13 wh hw hA h9 h2 hQ
  · exact ac_14 wh hw hA h9 h2 hQ
  · exact ac_15 wh hw hA h9 h2 hQ
  · exact ac_16 wh hw hA h9 h2 hQ
  · exact ac_17 wh hw hA h9 h2 hQ
end RDX
