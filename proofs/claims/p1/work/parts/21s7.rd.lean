/-! READS ON BOTH SIDES -/
section RDX
variable {g : xg_T} {x x' : Nat → Nat → Int32} {la la' : Nat → Nat → Nat} {t t' v tm : Nat → Int32} {r rm : Option Value} {E : String} {z : Int32} {n : Nat} {ln : Nat → Nat} {lf : Nat → Nat → Int32} {k : Nat}
theorem AL.t2 {x : Nat → Nat → Int32} {t tm v sv pa : Nat → Int32} {LN : Nat → Nat → Nat} {LF : Nat → Nat → Nat → Int32} {c0 : Nat} (hA : AL x t LN LF c0 tm v sv pa) : t 2 = tm 2 := by
  obtain ⟨-, -, -, h, -, -, e1, e2, -⟩ := hA
  exact e1.trans e2.symm
theorem sOf_n {y u : Nat → Int32} (hA : alk y u) {a : Nat} (ha : a < 6) : sOf y (nI a) = 0 + u (10 + 3 * a + 0) + u (10 + 3 * a + 1) + u (10 + 3 * a + 2) := by
  unfold sOf
  rw [show (0 : Int32) = nI 0 from rfl, show (1 : Int32) = nI 1 from rfl, show (2 : Int32) = nI 2 from rfl, sGet_n ha (by omega), sGet_n ha (by omega), sGet_n ha (by omega), hA.at (by omega), hA.at (by omega), hA.at (by omega)]
theorem stored_eq {y u : Nat → Int32} (hA : alk y u) : sAll y = rStored u 18 := by
  unfold sAll
  rw [show (0 : Int32) = nI 0 from rfl, show (1 : Int32) = nI 1 from rfl, show (2 : Int32) = nI 2 from rfl, show (3 : Int32) = nI 3 from rfl, show (4 : Int32) = nI 4 from rfl, show (5 : Int32) = nI 5 from rfl]
  rw [sOf_n hA (a := 0) (by omega), sOf_n hA (a := 1) (by omega), sOf_n hA (a := 2) (by omega), sOf_n hA (a := 3) (by omega), sOf_n hA (a := 4) (by omega), sOf_n hA (a := 5) (by omega)]
  show _ = hFold (fun _ => true) (fun k => u (10 + k)) 18
  simp only [hFold, if_true, show nI 0 = 0 from rfl, Int32.zero_add, ← Int32.add_assoc]
theorem packed_eq {y u : Nat → Int32} (hA : alk y u) {n : Nat} (hn : n ≤ 20) (e3 : y 3 = nI n) : packedN y 20 = rPacked u n := by
  refine hFold_al (fun k hk => ⟨?_, (hA.row (hA.lt hn e3 hk) (by omega) (by omega)).symm⟩) (fun k hk h20 => ?_) hn
  · show decide (¬ y (28 + 9 * k + 7) = -1 ∧ ¬ y (28 + 9 * k + 7) = 3) = decide (¬ u (28 + 9 * k + 7) = 3)
    rw [hA.row (hA.lt hn e3 hk) (by omega) (by omega)]
    exact decide_eq_decide.mpr ⟨fun q => q.2, fun q => ⟨(hA.2.2 k (by omega)).2 (hA.lt hn e3 hk), q⟩⟩
  · show decide (¬ y (28 + 9 * k + 7) = -1 ∧ ¬ y (28 + 9 * k + 7) = 3) = false
    rw [hA.blank hn e3 hk h20 (by omega)]
    decide
theorem st_worth {a : Int32} (h : L_X7_worth g x la t a r x' la' t') : x' = x ∧ la' = la ∧ t' = t := by
  obtain ⟨k, v1, -, -, -, -, -, h⟩ := h
  exact h
theorem sx_worth {a : Int32} (h : E_X7_worth g x la t a E x' la' t') : x' = x ∧ la' = la ∧ t' = t := by
  obtain ⟨-, -, h⟩ := h
  exact h
theorem kc_worth {a : Int32} (hE : E_X7_worth g x la t a E x' la' t') : ¬ kc [("java/lang/IndexOutOfBoundsException", 1)] E = 0 := by
  obtain ⟨rfl, -⟩ := hE
  decide +kernel
theorem rd_worth_y (cn : Int32) (hA : hAl (x 0) ln lf v) (_ : hok (x 0)) (hQ : Q_X8_worth n tm v cn rm z) (hL : L_X7_worth g x la t cn r x' la' t') : r = rm ∧ z = 0 := by
  obtain ⟨k, v1, rfl, hm, hk, hv, rfl, -⟩ := hL
  rcases hQ with ⟨kc, e, hmc, hkc, q1, q2⟩ | ⟨q, -⟩
  · obtain rfl := hA.1.kk hk hkc e
    exact ⟨by rw [q2, hv, worth_eq hA.1 hm hk], q1⟩
  · exact chest_in hA.1 hm hk q
theorem rd_worth_n (cn : Int32) (hA : hAl (x 0) ln lf v) (_ : hok (x 0)) (hQ : Q_X8_worth n tm v cn rm z) (hE : E_X7_worth g x la t cn E x' la' t') : z = kc [("java/lang/IndexOutOfBoundsException", 1)] E := by
  obtain ⟨rfl, hc, -⟩ := hE
  rcases hQ with ⟨kc, e, hmc, hkc, -⟩ | ⟨-, q1, -⟩
  · exact chest_bad hA.1 hc e hmc hkc
  · exact q1.trans (by decide +kernel)
theorem st_account {a : Int32} (h : L_X7_account g x la t a n r x' la' t') : x' = x ∧ la' = la ∧ t' = t := by
  rcases h with ⟨-, -, h⟩ | ⟨_, -, -, -, h⟩ | ⟨_, -, -, -, h⟩ | ⟨-, -, h⟩ | ⟨-, -, h⟩ | ⟨-, -, h⟩ | ⟨-, -, h⟩ | ⟨-, -, h⟩ | ⟨-, -, h⟩ | ⟨_, -, -, -, h⟩ | ⟨_, -, -, -, h⟩ | ⟨_, -, -, -, h⟩ | ⟨_, -, -, -, h⟩ | ⟨-, -, h⟩ | ⟨-, -, h⟩ | ⟨-, -, h⟩ | ⟨-, -, h⟩ | ⟨-, -, h⟩
  all_goals exact h
theorem sx_account {a : Int32} (h : E_X7_account g x la t a n E x' la' t') : x' = x ∧ la' = la ∧ t' = t := by
  obtain ⟨-, -, h⟩ := h
  exact h
theorem kc_account {a : Int32} (hE : E_X7_account g x la t a n E x' la' t') : ¬ kc [("java/lang/IllegalArgumentException", 1)] E = 0 := by
  obtain ⟨-, rfl, -⟩ := hE
  decide +kernel
theorem rd_account_n (wh : Int32) (hA : hAl (x 0) ln lf v) (h9 : tm 9 = nI n) (h2 : t 2 = tm 2) (hQ : Q_X8_account n tm v wh rm z) (hE : E_X7_account g x la t wh n E x' la' t') : z = kc [("java/lang/IllegalArgumentException", 1)] E := by
  obtain ⟨hw, rfl, -⟩ := hE
  rcases hQ with ⟨-, q1, -⟩ | ⟨rfl, -⟩ | ⟨rfl, -⟩ | ⟨_, rfl, -⟩ | ⟨rfl, -⟩ | ⟨rfl, -⟩ | ⟨rfl, -⟩ | ⟨rfl, -⟩ | ⟨rfl, -⟩ | ⟨_, rfl, -⟩ | ⟨_, rfl, -⟩ | ⟨_, rfl, -⟩ | ⟨_, rfl, -⟩ | ⟨_, rfl, -⟩ | ⟨rfl, -⟩ | ⟨rfl, -⟩ | ⟨rfl, -⟩ | ⟨rfl, -⟩ | ⟨rfl, -⟩
  · exact q1.trans (by decide +kernel)
  all_goals exact absurd hw (by decide)
theorem ac_0 (wh : Int32) (hw : wh.toInt = 0) (hA : hAl (x 0) ln lf v) (h9 : tm 9 = nI n) (h2 : t 2 = tm 2) (hQ : Q_X8_account n tm v wh rm z)  : some (Value.int (x 0 0)) = rm ∧ z = 0 := by
  obtain rfl : wh = 0 := Int32.toInt_inj.mp (hw.trans rfl)
  rcases hQ with ⟨q, -⟩ | ⟨-, q1, q2⟩ | ⟨q, -⟩ | ⟨_, q, -⟩ | ⟨q, -⟩ | ⟨q, -⟩ | ⟨q, -⟩ | ⟨q, -⟩ | ⟨q, -⟩ | ⟨_, q, -⟩ | ⟨_, q, -⟩ | ⟨_, q, -⟩ | ⟨_, q, -⟩ | ⟨_, q, -⟩ | ⟨q, -⟩ | ⟨q, -⟩ | ⟨q, -⟩ | ⟨q, -⟩ | ⟨q, -⟩
  · exact absurd q (by decide)
  · exact ⟨by rw [q2, hA.1.at (by omega)], q1⟩
  · exact absurd q (by decide)
  · exact absurd q (by decide)
  · exact absurd q (by decide)
  · exact absurd q (by decide)
  · exact absurd q (by decide)
  · exact absurd q (by decide)
  · exact absurd q (by decide)
  · exact absurd q (by decide)
  · exact absurd q (by decide)
  · exact absurd q (by decide)
  · exact absurd q (by decide)
  · exact absurd q (by decide)
  · exact absurd q (by decide)
  · exact absurd q (by decide)
  · exact absurd q (by decide)
  · exact absurd q (by decide)
  · exact absurd q (by decide)
theorem ac_1 (wh : Int32) (hw : wh.toInt = 1) (hA : hAl (x 0) ln lf v) (h9 : tm 9 = nI n) (h2 : t 2 = tm 2) (hQ : Q_X8_account n tm v wh rm z) {v1 : Int32} (hv : some (Value.int v1) = some (Value.int (sAll (x 0)))) : some (Value.int v1) = rm ∧ z = 0 := by
  obtain rfl : wh = 1 := Int32.toInt_inj.mp (hw.trans rfl)
  rcases hQ with ⟨q, -⟩ | ⟨q, -⟩ | ⟨-, q1, q2⟩ | ⟨_, q, -⟩ | ⟨q, -⟩ | ⟨q, -⟩ | ⟨q, -⟩ | ⟨q, -⟩ | ⟨q, -⟩ | ⟨_, q, -⟩ | ⟨_, q, -⟩ | ⟨_, q, -⟩ | ⟨_, q, -⟩ | ⟨_, q, -⟩ | ⟨q, -⟩ | ⟨q, -⟩ | ⟨q, -⟩ | ⟨q, -⟩ | ⟨q, -⟩
  · exact absurd q (by decide)
  · exact absurd q (by decide)
  · exact ⟨by rw [q2, hv, stored_eq hA.1], q1⟩
  · exact absurd q (by decide)
  · exact absurd q (by decide)
  · exact absurd q (by decide)
  · exact absurd q (by decide)
  · exact absurd q (by decide)
  · exact absurd q (by decide)
  · exact absurd q (by decide)
  · exact absurd q (by decide)
  · exact absurd q (by decide)
  · exact absurd q (by decide)
  · exact absurd q (by decide)
  · exact absurd q (by decide)
  · exact absurd q (by decide)
  · exact absurd q (by decide)
  · exact absurd q (by decide)
  · exact absurd q (by decide)
theorem ac_2 (wh : Int32) (hw : wh.toInt = 2) (hA : hAl (x 0) ln lf v) (h9 : tm 9 = nI n) (h2 : t 2 = tm 2) (hQ : Q_X8_account n tm v wh rm z) {v1 : Int32} (hv : some (Value.int v1) = some (Value.int (packedN (x 0) 20))) : some (Value.int v1) = rm ∧ z = 0 := by
  obtain rfl : wh = 2 := Int32.toInt_inj.mp (hw.trans rfl)
  rcases hQ with ⟨q, -⟩ | ⟨q, -⟩ | ⟨q, -⟩ | ⟨m, -, hm, e3, q1, q2⟩ | ⟨q, -⟩ | ⟨q, -⟩ | ⟨q, -⟩ | ⟨q, -⟩ | ⟨q, -⟩ | ⟨_, q, -⟩ | ⟨_, q, -⟩ | ⟨_, q, -⟩ | ⟨_, q, -⟩ | ⟨_, q, -⟩ | ⟨q, -⟩ | ⟨q, -⟩ | ⟨q, -⟩ | ⟨q, -⟩ | ⟨q, -⟩
  · exact absurd q (by decide)
  · exact absurd q (by decide)
  · exact absurd q (by decide)
  · exact ⟨by rw [q2, hv, packed_eq hA.1 hm ((hA.1.at (q := 3) (by omega)).symm.trans e3)], q1⟩
  · exact absurd q (by decide)
  · exact absurd q (by decide)
  · exact absurd q (by decide)
  · exact absurd q (by decide)
  · exact absurd q (by decide)
  · exact absurd q (by decide)
  · exact absurd q (by decide)
  · exact absurd q (by decide)
  · exact absurd q (by decide)
  · exact absurd q (by decide)
  · exact absurd q (by decide)
  · exact absurd q (by decide)
  · exact absurd q (by decide)
  · exact absurd q (by decide)
  · exact absurd q (by decide)
theorem ac_3 (wh : Int32) (hw : wh.toInt = 3) (hA : hAl (x 0) ln lf v) (h9 : tm 9 = nI n) (h2 : t 2 = tm 2) (hQ : Q_X8_account n tm v wh rm z)  : some (Value.int (x 0 7)) = rm ∧ z = 0 := by
  obtain rfl : wh = 3 := Int32.toInt_inj.mp (hw.trans rfl)
  rcases hQ with ⟨q, -⟩ | ⟨q, -⟩ | ⟨q, -⟩ | ⟨_, q, -⟩ | ⟨-, q1, q2⟩ | ⟨q, -⟩ | ⟨q, -⟩ | ⟨q, -⟩ | ⟨q, -⟩ | ⟨_, q, -⟩ | ⟨_, q, -⟩ | ⟨_, q, -⟩ | ⟨_, q, -⟩ | ⟨_, q, -⟩ | ⟨q, -⟩ | ⟨q, -⟩ | ⟨q, -⟩ | ⟨q, -⟩ | ⟨q, -⟩
  · exact absurd q (by decide)
  · exact absurd q (by decide)
  · exact absurd q (by decide)
  · exact absurd q (by decide)
  · exact ⟨by rw [q2, hA.1.at (by omega)], q1⟩
  · exact absurd q (by decide)
  · exact absurd q (by decide)
  · exact absurd q (by decide)
  · exact absurd q (by decide)
  · exact absurd q (by decide)
  · exact absurd q (by decide)
  · exact absurd q (by decide)
  · exact absurd q (by decide)
  · exact absurd q (by decide)
  · exact absurd q (by decide)
  · exact absurd q (by decide)
  · exact absurd q (by decide)
  · exact absurd q (by decide)
  · exact absurd q (by decide)
theorem ac_4 (wh : Int32) (hw : wh.toInt = 4) (hA : hAl (x 0) ln lf v) (h9 : tm 9 = nI n) (h2 : t 2 = tm 2) (hQ : Q_X8_account n tm v wh rm z)  : some (Value.int (x 0 8)) = rm ∧ z = 0 := by
  obtain rfl : wh = 4 := Int32.toInt_inj.mp (hw.trans rfl)
  rcases hQ with ⟨q, -⟩ | ⟨q, -⟩ | ⟨q, -⟩ | ⟨_, q, -⟩ | ⟨q, -⟩ | ⟨-, q1, q2⟩ | ⟨q, -⟩ | ⟨q, -⟩ | ⟨q, -⟩ | ⟨_, q, -⟩ | ⟨_, q, -⟩ | ⟨_, q, -⟩ | ⟨_, q, -⟩ | ⟨_, q, -⟩ | ⟨q, -⟩ | ⟨q, -⟩ | ⟨q, -⟩ | ⟨q, -⟩ | ⟨q, -⟩
  · exact absurd q (by decide)
  · exact absurd q (by decide)
  · exact absurd q (by decide)
  · exact absurd q (by decide)
  · exact absurd q (by decide)
  · exact ⟨by rw [q2, hA.1.at (by omega)], q1⟩
  · exact absurd q (by decide)
  · exact absurd q (by decide)
  · exact absurd q (by decide)
  · exact absurd q (by decide)
  · exact absurd q (by decide)
  · exact absurd q (by decide)
  · exact absurd q (by decide)
  · exact absurd q (by decide)
  · exact absurd q (by decide)
  · exact absurd q (by decide)
  · exact absurd q (by decide)
  · exact absurd q (by decide)
  · exact absurd q (by decide)
theorem ac_5 (wh : Int32) (hw : wh.toInt = 5) (hA : hAl (x 0) ln lf v) (h9 : tm 9 = nI n) (h2 : t 2 = tm 2) (hQ : Q_X8_account n tm v wh rm z)  : some (Value.int (x 0 6)) = rm ∧ z = 0 := by
  obtain rfl : wh = 5 := Int32.toInt_inj.mp (hw.trans rfl)
  rcases hQ with ⟨q, -⟩ | ⟨q, -⟩ | ⟨q, -⟩ | ⟨_, q, -⟩ | ⟨q, -⟩ | ⟨q, -⟩ | ⟨-, q1, q2⟩ | ⟨q, -⟩ | ⟨q, -⟩ | ⟨_, q, -⟩ | ⟨_, q, -⟩ | ⟨_, q, -⟩ | ⟨_, q, -⟩ | ⟨_, q, -⟩ | ⟨q, -⟩ | ⟨q, -⟩ | ⟨q, -⟩ | ⟨q, -⟩ | ⟨q, -⟩
  · exact absurd q (by decide)
  · exact absurd q (by decide)
  · exact absurd q (by decide)
  · exact absurd q (by decide)
  · exact absurd q (by decide)
  · exact absurd q (by decide)
  · exact ⟨by rw [q2, hA.1.at (by omega)], q1⟩
  · exact absurd q (by decide)
  · exact absurd q (by decide)
  · exact absurd q (by decide)
  · exact absurd q (by decide)
  · exact absurd q (by decide)
  · exact absurd q (by decide)
  · exact absurd q (by decide)
  · exact absurd q (by decide)
  · exact absurd q (by decide)
  · exact absurd q (by decide)
  · exact absurd q (by decide)
  · exact absurd q (by decide)
theorem ac_6 (wh : Int32) (hw : wh.toInt = 6) (hA : hAl (x 0) ln lf v) (h9 : tm 9 = nI n) (h2 : t 2 = tm 2) (hQ : Q_X8_account n tm v wh rm z)  : some (Value.int (x 0 1)) = rm ∧ z = 0 := by
  obtain rfl : wh = 6 := Int32.toInt_inj.mp (hw.trans rfl)
  rcases hQ with ⟨q, -⟩ | ⟨q, -⟩ | ⟨q, -⟩ | ⟨_, q, -⟩ | ⟨q, -⟩ | ⟨q, -⟩ | ⟨q, -⟩ | ⟨-, q1, q2⟩ | ⟨q, -⟩ | ⟨_, q, -⟩ | ⟨_, q, -⟩ | ⟨_, q, -⟩ | ⟨_, q, -⟩ | ⟨_, q, -⟩ | ⟨q, -⟩ | ⟨q, -⟩ | ⟨q, -⟩ | ⟨q, -⟩ | ⟨q, -⟩
  · exact absurd q (by decide)
  · exact absurd q (by decide)
  · exact absurd q (by decide)
  · exact absurd q (by decide)
  · exact absurd q (by decide)
  · exact absurd q (by decide)
  · exact absurd q (by decide)
  · exact ⟨by rw [q2, hA.1.at (by omega)], q1⟩
  · exact absurd q (by decide)
  · exact absurd q (by decide)
  · exact absurd q (by decide)
  · exact absurd q (by decide)
  · exact absurd q (by decide)
  · exact absurd q (by decide)
  · exact absurd q (by decide)
  · exact absurd q (by decide)
  · exact absurd q (by decide)
  · exact absurd q (by decide)
  · exact absurd q (by decide)
theorem ac_7 (wh : Int32) (hw : wh.toInt = 7) (hA : hAl (x 0) ln lf v) (h9 : tm 9 = nI n) (h2 : t 2 = tm 2) (hQ : Q_X8_account n tm v wh rm z)  : some (Value.int (x 0 2)) = rm ∧ z = 0 := by
  obtain rfl : wh = 7 := Int32.toInt_inj.mp (hw.trans rfl)
  rcases hQ with ⟨q, -⟩ | ⟨q, -⟩ | ⟨q, -⟩ | ⟨_, q, -⟩ | ⟨q, -⟩ | ⟨q, -⟩ | ⟨q, -⟩ | ⟨q, -⟩ | ⟨-, q1, q2⟩ | ⟨_, q, -⟩ | ⟨_, q, -⟩ | ⟨_, q, -⟩ | ⟨_, q, -⟩ | ⟨_, q, -⟩ | ⟨q, -⟩ | ⟨q, -⟩ | ⟨q, -⟩ | ⟨q, -⟩ | ⟨q, -⟩
  · exact absurd q (by decide)
  · exact absurd q (by decide)
  · exact absurd q (by decide)
  · exact absurd q (by decide)
  · exact absurd q (by decide)
  · exact absurd q (by decide)
  · exact absurd q (by decide)
  · exact absurd q (by decide)
  · exact ⟨by rw [q2, hA.1.at (by omega)], q1⟩
  · exact absurd q (by decide)
  · exact absurd q (by decide)
  · exact absurd q (by decide)
  · exact absurd q (by decide)
  · exact absurd q (by decide)
  · exact absurd q (by decide)
  · exact absurd q (by decide)
  · exact absurd q (by decide)
  · exact absurd q (by decide)
  · exact absurd q (by decide)
theorem ac_8 (wh : Int32) (hw : wh.toInt = 8) (hA : hAl (x 0) ln lf v) (h9 : tm 9 = nI n) (h2 : t 2 = tm 2) (hQ : Q_X8_account n tm v wh rm z)  : some (Value.int (x 0 3)) = rm ∧ z = 0 := by
  obtain rfl : wh = 8 := Int32.toInt_inj.mp (hw.trans rfl)
  rcases hQ with ⟨q, -⟩ | ⟨q, -⟩ | ⟨q, -⟩ | ⟨_, q, -⟩ | ⟨q, -⟩ | ⟨q, -⟩ | ⟨q, -⟩ | ⟨q, -⟩ | ⟨q, -⟩ | ⟨m, -, e3, hm, q1, q2⟩ | ⟨_, q, -⟩ | ⟨_, q, -⟩ | ⟨_, q, -⟩ | ⟨_, q, -⟩ | ⟨q, -⟩ | ⟨q, -⟩ | ⟨q, -⟩ | ⟨q, -⟩ | ⟨q, -⟩
  · exact absurd q (by decide)
  · exact absurd q (by decide)
  · exact absurd q (by decide)
  · exact absurd q (by decide)
  · exact absurd q (by decide)
  · exact absurd q (by decide)
  · exact absurd q (by decide)
  · exact absurd q (by decide)
  · exact absurd q (by decide)
  · exact ⟨by rw [q2, ← e3, hA.1.at (by omega)], q1⟩
  · exact absurd q (by decide)
  · exact absurd q (by decide)
  · exact absurd q (by decide)
  · exact absurd q (by decide)
  · exact absurd q (by decide)
  · exact absurd q (by decide)
  · exact absurd q (by decide)
  · exact absurd q (by decide)
  · exact absurd q (by decide)
theorem ac_9 (wh : Int32) (hw : wh.toInt = 9) (hA : hAl (x 0) ln lf v) (h9 : tm 9 = nI n) (h2 : t 2 = tm 2) (hQ : Q_X8_account n tm v wh rm z) {v1 : Int32} (hv : some (Value.int v1) = some (Value.int (nAt (x 0) 0 20))) : some (Value.int v1) = rm ∧ z = 0 := by
  obtain rfl : wh = 9 := Int32.toInt_inj.mp (hw.trans rfl)
  rcases hQ with ⟨q, -⟩ | ⟨q, -⟩ | ⟨q, -⟩ | ⟨_, q, -⟩ | ⟨q, -⟩ | ⟨q, -⟩ | ⟨q, -⟩ | ⟨q, -⟩ | ⟨q, -⟩ | ⟨_, q, -⟩ | ⟨m, -, hm, e3, q1, q2⟩ | ⟨_, q, -⟩ | ⟨_, q, -⟩ | ⟨_, q, -⟩ | ⟨q, -⟩ | ⟨q, -⟩ | ⟨q, -⟩ | ⟨q, -⟩ | ⟨q, -⟩
  · exact absurd q (by decide)
  · exact absurd q (by decide)
  · exact absurd q (by decide)
  · exact absurd q (by decide)
  · exact absurd q (by decide)
  · exact absurd q (by decide)
  · exact absurd q (by decide)
  · exact absurd q (by decide)
  · exact absurd q (by decide)
  · exact absurd q (by decide)
  · exact ⟨by rw [q2, hv, nAt_eq hA.1 hm ((hA.1.at (q := 3) (by omega)).symm.trans e3) (by decide)], q1⟩
  · exact absurd q (by decide)
  · exact absurd q (by decide)
  · exact absurd q (by decide)
  · exact absurd q (by decide)
  · exact absurd q (by decide)
  · exact absurd q (by decide)
  · exact absurd q (by decide)
  · exact absurd q (by decide)
theorem ac_10 (wh : Int32) (hw : wh.toInt = 10) (hA : hAl (x 0) ln lf v) (h9 : tm 9 = nI n) (h2 : t 2 = tm 2) (hQ : Q_X8_account n tm v wh rm z) {v1 : Int32} (hv : some (Value.int v1) = some (Value.int (nAt (x 0) 1 20))) : some (Value.int v1) = rm ∧ z = 0 := by
  obtain rfl : wh = 10 := Int32.toInt_inj.mp (hw.trans rfl)
  rcases hQ with ⟨q, -⟩ | ⟨q, -⟩ | ⟨q, -⟩ | ⟨_, q, -⟩ | ⟨q, -⟩ | ⟨q, -⟩ | ⟨q, -⟩ | ⟨q, -⟩ | ⟨q, -⟩ | ⟨_, q, -⟩ | ⟨_, q, -⟩ | ⟨m, -, hm, e3, q1, q2⟩ | ⟨_, q, -⟩ | ⟨_, q, -⟩ | ⟨q, -⟩ | ⟨q, -⟩ | ⟨q, -⟩ | ⟨q, -⟩ | ⟨q, -⟩
  · exact absurd q (by decide)
  · exact absurd q (by decide)
  · exact absurd q (by decide)
  · exact absurd q (by decide)
  · exact absurd q (by decide)
  · exact absurd q (by decide)
  · exact absurd q (by decide)
  · exact absurd q (by decide)
  · exact absurd q (by decide)
  · exact absurd q (by decide)
  · exact absurd q (by decide)
  · exact ⟨by rw [q2, hv, nAt_eq hA.1 hm ((hA.1.at (q := 3) (by omega)).symm.trans e3) (by decide)], q1⟩
  · exact absurd q (by decide)
  · exact absurd q (by decide)
  · exact absurd q (by decide)
  · exact absurd q (by decide)
  · exact absurd q (by decide)
  · exact absurd q (by decide)
  · exact absurd q (by decide)
theorem ac_11 (wh : Int32) (hw : wh.toInt = 11) (hA : hAl (x 0) ln lf v) (h9 : tm 9 = nI n) (h2 : t 2 = tm 2) (hQ : Q_X8_account n tm v wh rm z) {v1 : Int32} (hv : some (Value.int v1) = some (Value.int (nAt (x 0) 2 20))) : some (Value.int v1) = rm ∧ z = 0 := by
  obtain rfl : wh = 11 := Int32.toInt_inj.mp (hw.trans rfl)
  rcases hQ with ⟨q, -⟩ | ⟨q, -⟩ | ⟨q, -⟩ | ⟨_, q, -⟩ | ⟨q, -⟩ | ⟨q, -⟩ | ⟨q, -⟩ | ⟨q, -⟩ | ⟨q, -⟩ | ⟨_, q, -⟩ | ⟨_, q, -⟩ | ⟨_, q, -⟩ | ⟨m, -, hm, e3, q1, q2⟩ | ⟨_, q, -⟩ | ⟨q, -⟩ | ⟨q, -⟩ | ⟨q, -⟩ | ⟨q, -⟩ | ⟨q, -⟩
  · exact absurd q (by decide)
  · exact absurd q (by decide)
  · exact absurd q (by decide)
  · exact absurd q (by decide)
  · exact absurd q (by decide)
  · exact absurd q (by decide)
  · exact absurd q (by decide)
  · exact absurd q (by decide)
  · exact absurd q (by decide)
  · exact absurd q (by decide)
  · exact absurd q (by decide)
  · exact absurd q (by decide)
  · exact ⟨by rw [q2, hv, nAt_eq hA.1 hm ((hA.1.at (q := 3) (by omega)).symm.trans e3) (by decide)], q1⟩
  · exact absurd q (by decide)
  · exact absurd q (by decide)
  · exact absurd q (by decide)
  · exact absurd q (by decide)
  · exact absurd q (by decide)
  · exact absurd q (by decide)
theorem ac_12 (wh : Int32) (hw : wh.toInt = 12) (hA : hAl (x 0) ln lf v) (h9 : tm 9 = nI n) (h2 : t 2 = tm 2) (hQ : Q_X8_account n tm v wh rm z) {v1 : Int32} (hv : some (Value.int v1) = some (Value.int (hRoom (x 0) 20))) : some (Value.int v1) = rm ∧ z = 0 := by
  obtain rfl : wh = 12 := Int32.toInt_inj.mp (hw.trans rfl)
  rcases hQ with ⟨q, -⟩ | ⟨q, -⟩ | ⟨q, -⟩ | ⟨_, q, -⟩ | ⟨q, -⟩ | ⟨q, -⟩ | ⟨q, -⟩ | ⟨q, -⟩ | ⟨q, -⟩ | ⟨_, q, -⟩ | ⟨_, q, -⟩ | ⟨_, q, -⟩ | ⟨_, q, -⟩ | ⟨m, -, hm, e3, q1, q2⟩ | ⟨q, -⟩ | ⟨q, -⟩ | ⟨q, -⟩ | ⟨q, -⟩ | ⟨q, -⟩
  · exact absurd q (by decide)
  · exact absurd q (by decide)
  · exact absurd q (by decide)
  · exact absurd q (by decide)
  · exact absurd q (by decide)
  · exact absurd q (by decide)
  · exact absurd q (by decide)
  · exact absurd q (by decide)
  · exact absurd q (by decide)
  · exact absurd q (by decide)
  · exact absurd q (by decide)
  · exact absurd q (by decide)
  · exact absurd q (by decide)
  · exact ⟨by rw [q2, hv, hRoom_eq hA.1 hm ((hA.1.at (q := 3) (by omega)).symm.trans e3)], q1⟩
  · exact absurd q (by decide)
  · exact absurd q (by decide)
  · exact absurd q (by decide)
  · exact absurd q (by decide)
  · exact absurd q (by decide)
theorem ac_13 (wh : Int32) (hw : wh.toInt = 13) (hA : hAl (x 0) ln lf v) (h9 : tm 9 = nI n) (h2 : t 2 = tm 2) (hQ : Q_X8_account n tm v wh rm z)  : some (Value.int (x 0 9)) = rm ∧ z = 0 := by
  obtain rfl : wh = 13 := Int32.toInt_inj.mp (hw.trans rfl)
  rcases hQ with ⟨q, -⟩ | ⟨q, -⟩ | ⟨q, -⟩ | ⟨_, q, -⟩ | ⟨q, -⟩ | ⟨q, -⟩ | ⟨q, -⟩ | ⟨q, -⟩ | ⟨q, -⟩ | ⟨_, q, -⟩ | ⟨_, q, -⟩ | ⟨_, q, -⟩ | ⟨_, q, -⟩ | ⟨_, q, -⟩ | ⟨-, q1, q2⟩ | ⟨q, -⟩ | ⟨q, -⟩ | ⟨q, -⟩ | ⟨q, -⟩
  · exact absurd q (by decide)
  · exact absurd q (by decide)
  · exact absurd q (by decide)
  · exact absurd q (by decide)
  · exact absurd q (by decide)
  · exact absurd q (by decide)
  · exact absurd q (by decide)
  · exact absurd q (by decide)
  · exact absurd q (by decide)
  · exact absurd q (by decide)
  · exact absurd q (by decide)
  · exact absurd q (by decide)
  · exact absurd q (by decide)
  · exact absurd q (by decide)
  · exact ⟨by rw [q2, hA.1.at (by omega)], q1⟩
  · exact absurd q (by decide)
  · exact absurd q (by decide)
  · exact absurd q (by decide)
  · exact absurd q (by decide)
theorem ac_14 (wh : Int32) (hw : wh.toInt = 14) (hA : hAl (x 0) ln lf v) (h9 : tm 9 = nI n) (h2 : t 2 = tm 2) (hQ : Q_X8_account n tm v wh rm z)  : some (Value.int (x 0 4)) = rm ∧ z = 0 := by
  obtain rfl : wh = 14 := Int32.toInt_inj.mp (hw.trans rfl)
  rcases hQ with ⟨q, -⟩ | ⟨q, -⟩ | ⟨q, -⟩ | ⟨_, q, -⟩ | ⟨q, -⟩ | ⟨q, -⟩ | ⟨q, -⟩ | ⟨q, -⟩ | ⟨q, -⟩ | ⟨_, q, -⟩ | ⟨_, q, -⟩ | ⟨_, q, -⟩ | ⟨_, q, -⟩ | ⟨_, q, -⟩ | ⟨q, -⟩ | ⟨-, q1, q2⟩ | ⟨q, -⟩ | ⟨q, -⟩ | ⟨q, -⟩
  · exact absurd q (by decide)
  · exact absurd q (by decide)
  · exact absurd q (by decide)
  · exact absurd q (by decide)
  · exact absurd q (by decide)
  · exact absurd q (by decide)
  · exact absurd q (by decide)
  · exact absurd q (by decide)
  · exact absurd q (by decide)
  · exact absurd q (by decide)
  · exact absurd q (by decide)
  · exact absurd q (by decide)
  · exact absurd q (by decide)
  · exact absurd q (by decide)
  · exact absurd q (by decide)
  · exact ⟨by rw [q2, hA.1.at (by omega)], q1⟩
  · exact absurd q (by decide)
  · exact absurd q (by decide)
  · exact absurd q (by decide)
theorem ac_15 (wh : Int32) (hw : wh.toInt = 15) (hA : hAl (x 0) ln lf v) (h9 : tm 9 = nI n) (h2 : t 2 = tm 2) (hQ : Q_X8_account n tm v wh rm z)  : some (Value.int (x 0 5)) = rm ∧ z = 0 := by
  obtain rfl : wh = 15 := Int32.toInt_inj.mp (hw.trans rfl)
  rcases hQ with ⟨q, -⟩ | ⟨q, -⟩ | ⟨q, -⟩ | ⟨_, q, -⟩ | ⟨q, -⟩ | ⟨q, -⟩ | ⟨q, -⟩ | ⟨q, -⟩ | ⟨q, -⟩ | ⟨_, q, -⟩ | ⟨_, q, -⟩ | ⟨_, q, -⟩ | ⟨_, q, -⟩ | ⟨_, q, -⟩ | ⟨q, -⟩ | ⟨q, -⟩ | ⟨-, q1, q2⟩ | ⟨q, -⟩ | ⟨q, -⟩
  · exact absurd q (by decide)
  · exact absurd q (by decide)
  · exact absurd q (by decide)
  · exact absurd q (by decide)
  · exact absurd q (by decide)
  · exact absurd q (by decide)
  · exact absurd q (by decide)
  · exact absurd q (by decide)
  · exact absurd q (by decide)
  · exact absurd q (by decide)
  · exact absurd q (by decide)
  · exact absurd q (by decide)
  · exact absurd q (by decide)
  · exact absurd q (by decide)
  · exact absurd q (by decide)
  · exact absurd q (by decide)
  · exact ⟨by rw [q2, hA.1.at (by omega)], q1⟩
  · exact absurd q (by decide)
  · exact absurd q (by decide)
theorem ac_16 (wh : Int32) (hw : wh.toInt = 16) (hA : hAl (x 0) ln lf v) (h9 : tm 9 = nI n) (h2 : t 2 = tm 2) (hQ : Q_X8_account n tm v wh rm z)  : some (Value.int (nI n)) = rm ∧ z = 0 := by
  obtain rfl : wh = 16 := Int32.toInt_inj.mp (hw.trans rfl)
  rcases hQ with ⟨q, -⟩ | ⟨q, -⟩ | ⟨q, -⟩ | ⟨_, q, -⟩ | ⟨q, -⟩ | ⟨q, -⟩ | ⟨q, -⟩ | ⟨q, -⟩ | ⟨q, -⟩ | ⟨_, q, -⟩ | ⟨_, q, -⟩ | ⟨_, q, -⟩ | ⟨_, q, -⟩ | ⟨_, q, -⟩ | ⟨q, -⟩ | ⟨q, -⟩ | ⟨q, -⟩ | ⟨-, q1, q2⟩ | ⟨q, -⟩
  · exact absurd q (by decide)
  · exact absurd q (by decide)
  · exact absurd q (by decide)
  · exact absurd q (by decide)
  · exact absurd q (by decide)
  · exact absurd q (by decide)
  · exact absurd q (by decide)
  · exact absurd q (by decide)
  · exact absurd q (by decide)
  · exact absurd q (by decide)
  · exact absurd q (by decide)
  · exact absurd q (by decide)
  · exact absurd q (by decide)
  · exact absurd q (by decide)
  · exact absurd q (by decide)
  · exact absurd q (by decide)
  · exact absurd q (by decide)
  · exact ⟨by rw [q2, h9], q1⟩
  · exact absurd q (by decide)
theorem ac_17 (wh : Int32) (hw : wh.toInt = 17) (hA : hAl (x 0) ln lf v) (h9 : tm 9 = nI n) (h2 : t 2 = tm 2) (hQ : Q_X8_account n tm v wh rm z)  : some (Value.int (t 2)) = rm ∧ z = 0 := by
  obtain rfl : wh = 17 := Int32.toInt_inj.mp (hw.trans rfl)
  rcases hQ with ⟨q, -⟩ | ⟨q, -⟩ | ⟨q, -⟩ | ⟨_, q, -⟩ | ⟨q, -⟩ | ⟨q, -⟩ | ⟨q, -⟩ | ⟨q, -⟩ | ⟨q, -⟩ | ⟨_, q, -⟩ | ⟨_, q, -⟩ | ⟨_, q, -⟩ | ⟨_, q, -⟩ | ⟨_, q, -⟩ | ⟨q, -⟩ | ⟨q, -⟩ | ⟨q, -⟩ | ⟨q, -⟩ | ⟨-, q1, q2⟩
  · exact absurd q (by decide)
  · exact absurd q (by decide)
  · exact absurd q (by decide)
  · exact absurd q (by decide)
  · exact absurd q (by decide)
  · exact absurd q (by decide)
  · exact absurd q (by decide)
  · exact absurd q (by decide)
  · exact absurd q (by decide)
  · exact absurd q (by decide)
  · exact absurd q (by decide)
  · exact absurd q (by decide)
  · exact absurd q (by decide)
  · exact absurd q (by decide)
  · exact absurd q (by decide)
  · exact absurd q (by decide)
  · exact absurd q (by decide)
  · exact absurd q (by decide)
  · exact ⟨by rw [q2, h2], q1⟩
theorem rd_account_y (wh : Int32) (hA : hAl (x 0) ln lf v) (h9 : tm 9 = nI n) (h2 : t 2 = tm 2) (hQ : Q_X8_account n tm v wh rm z) (hL : L_X7_account g x la t wh n r x' la' t') : r = rm ∧ z = 0 := by
  rcases hL with ⟨hw, rfl, -⟩ | ⟨v1, hw, hv, rfl, -⟩ | ⟨v1, hw, hv, rfl, -⟩ | ⟨hw, rfl, -⟩ | ⟨hw, rfl, -⟩ | ⟨hw, rfl, -⟩ | ⟨hw, rfl, -⟩ | ⟨hw, rfl, -⟩ | ⟨hw, rfl, -⟩ | ⟨v1, hw, hv, rfl, -⟩ | ⟨v1, hw, hv, rfl, -⟩ | ⟨v1, hw, hv, rfl, -⟩ | ⟨v1, hw, hv, rfl, -⟩ | ⟨hw, rfl, -⟩ | ⟨hw, rfl, -⟩ | ⟨hw, rfl, -⟩ | ⟨hw, rfl, -⟩ | ⟨hw, rfl, -⟩
  · exact ac_0 wh hw hA h9 h2 hQ
  · exact ac_1 wh hw hA h9 h2 hQ hv
  · exact ac_2 wh hw hA h9 h2 hQ hv
  · exact ac_3 wh hw hA h9 h2 hQ
  · exact ac_4 wh hw hA h9 h2 hQ
  · exact ac_5 wh hw hA h9 h2 hQ
  · exact ac_6 wh hw hA h9 h2 hQ
  · exact ac_7 wh hw hA h9 h2 hQ
  · exact ac_8 wh hw hA h9 h2 hQ
  · exact ac_9 wh hw hA h9 h2 hQ hv
  · exact ac_10 wh hw hA h9 h2 hQ hv
  · exact ac_11 wh hw hA h9 h2 hQ hv
  · exact ac_12 wh hw hA h9 h2 hQ hv
  · exact ac_13 wh hw hA h9 h2 hQ
  · exact ac_14 wh hw hA h9 h2 hQ
  · exact ac_15 wh hw hA h9 h2 hQ
  · exact ac_16 wh hw hA h9 h2 hQ
  · exact ac_17 wh hw hA h9 h2 hQ
theorem rd_cargo (hA : hAl (x 0) ln lf v) (hQ : Q_X8_cargo n tm v rm z) (hL : L_X7_cargo g x la t r x' la' t') : r = rm := by
  obtain ⟨v1, hv, rfl, -⟩ := hL
  obtain ⟨m2, hm, e3, -, rfl⟩ := hQ
  rw [hv, cargo_eq hA.1 hm ((hA.1.at (q := 3) (by omega)).symm.trans e3)]
theorem l9_screw (cn : Int32) (mn : Int32) (h : L9_X7_screw g x la t cn mn r x' la' t') : L_X7_screw g x la t cn mn r x' la' t' := by
  obtain ⟨k, x1, la1, x3, x2, la3, b2, t4, v5, c1, c2, c3, c4, c5, c6, c7, c8, c9, d1, -, d2⟩ := h
  exact ⟨k, x1, la1, x3, x2, la3, b2, t4, v5, c1, c2, c3, c4, c5, c6, c7, c8, c9, d1, d2⟩
theorem e9_screw (cn : Int32) (mn : Int32) (h : E9_X7_screw g x la t cn mn E x' la' t') : E_X7_screw g x la t cn mn E x' la' t' := h
theorem l9_fill (cn : Int32) (ga : Int32) (ki : Int32) (po : Int32) (h : L9_X7_fill g x la t cn ga ki po r x' la' t') : L_X7_fill g x la t cn ga ki po r x' la' t' := by
  obtain ⟨k, x1, la1, x3, x2, la3, la2, b2, t4, v5, c1, c2, c3, c4, c5, c6, c7, c8, c9, d0, d1, -, d2⟩ := h
  exact ⟨k, x1, la1, x3, x2, la3, la2, b2, t4, v5, c1, c2, c3, c4, c5, c6, c7, c8, c9, d0, d1, d2⟩
theorem e9_fill (cn : Int32) (ga : Int32) (ki : Int32) (po : Int32) (h : E9_X7_fill g x la t cn ga ki po E x' la' t') : E_X7_fill g x la t cn ga ki po E x' la' t' := h
theorem l9_screw_b {cn mn : Int32} (h : L9_X7_screw g x la t cn mn r x' la' t') : r = some (.int 0) ∨ r = some (.int 1) := by
  obtain ⟨k, x1, la1, x3, x2, la3, b2, t4, v5, c1, c2, c3, c4, c5, c6, c7, c8, c9, d1, hv, rfl, d2⟩ := h
  rw [hv]
  cases cTight (row (x3 0) k)
  · exact Or.inl rfl
  · exact Or.inr rfl
end RDX
section RDY
variable {g : xg_T} {w1 : xw_T} {sz1 : Nat} {x x' : Nat → Nat → Int32} {la la' : Nat → Nat → Nat} {t t' tm tm' v v' sv pa pa' : Nat → Int32} {LN : Nat → Nat → Nat} {LF : Nat → Nat → Nat → Int32} {c0 : Nat} {r rm : Option Value} {E : String} {ja jb jc : Int32} {X : Option Value → (Nat → Int32) → (Nat → Int32) → Prop}
theorem al9_screw_y (cn : Int32) (mn : Int32) (hA : AL x t LN LF c0 tm v sv pa) (hT : TX g w1 sz1 la LN LF) (hx : hok (x 0)) (hc : c0 < 2 ^ 30) (h7 : tm' 7 = tm 7) (hP : cP tm v pa (R_X8_screws (upd (upd tm 0 0) 1 0) v cn mn) 1 2 3 rm tm' v' pa') (hL : L9_X7_screw g x la t cn mn r x' la' t') : r = rm ∧ tm' 0 = 0 ∧ aft g w1 sz1 x' la' t' (c0 + 1) tm' v' sv pa' := by
  obtain ⟨k, x1, la1, x3, x2, la3, b2, t4, v5, rfl, hm, hk, hp, hj, rfl, rfl, ht, hb, rfl, hv9, rfl, rfl, rfl, rfl⟩ := hL
  have hj : pRow x la t _ _ := hj
  have e0 := hj.e0
  obtain ⟨hC, rfl⟩ := tri_y ht hb
  obtain ⟨⟨a, t1, v1, hrm, hX⟩, hz, hf⟩ := (hj.yes (g := g) (w1 := w1) (sz1 := sz1) (x2 := screwX (x1 0) k mn) (l2 := la1 0) hc hA.h1 rfl rfl rfl).alike hA hT hc h7 hP (fun a t1 v1 hX => by
    rw [e0.1] at hC
    rw [e0.1, e0.2]
    rcases screw_eq hA.1.1 hx hm hk hp hX with ⟨-, q1, q2, q3, q4⟩ | ⟨q, -⟩
    · exact ⟨q1.trans rfl, LN 0, LF 0, hT 0 (by omega), q3, hA.1.2.same q4⟩
    · exact absurd hC q)
  refine ⟨?_, hz, hf⟩
  rw [hrm, hv9]
  rw [e0.1] at hC
  rcases screw_eq hA.1.1 hx hm hk hp hX with ⟨-, -, q2, -⟩ | ⟨q, -⟩
  · rw [q2, va_up_self, e0.1]
    rfl
  · exact absurd hC q
theorem al9_fill_y (cn : Int32) (ga : Int32) (ki : Int32) (po : Int32) (hA : AL x t LN LF c0 tm v sv pa) (hT : TX g w1 sz1 la LN LF) (hx : hok (x 0)) (hc : c0 < 2 ^ 30) (h7 : tm' 7 = tm 7) (hP : cP tm v pa (R_X8_fills (upd (upd tm 0 0) 1 0) v cn ga ki po) 1 2 3 rm tm' v' pa') (hL : L9_X7_fill g x la t cn ga ki po r x' la' t') : r = rm ∧ tm' 0 = 0 ∧ aft g w1 sz1 x' la' t' (c0 + 1) tm' v' sv pa' := by
  obtain ⟨k, x1, la1, x3, x2, la3, la2, b2, t4, v5, rfl, hm, hk, hlf, hp, hj, rfl, rfl, hd, hb, rfl, hv9, rfl, rfl, rfl, rfl⟩ := hL
  have hj : pRow x la t _ _ := hj
  have e0 := hj.e0
  obtain ⟨hC, rfl, rfl⟩ : _ ∧ _ ∧ _ := hd.elim (fun q => ⟨q.1, q.2.2.1, q.2.2.2⟩) (fun q => absurd (int0 q.2.1) hb)
  obtain ⟨⟨a, t1, v1, hrm, hX⟩, hz, hf⟩ := (hj.yes (g := g) (w1 := w1) (sz1 := sz1) (x2 := fillX (x1 0) k ga ki po) (l2 := va_up (la1 0) k (g.2 100)) hc hA.h1 rfl rfl rfl).alike hA hT hc h7 hP (fun a t1 v1 hX => by
    rw [e0.1] at hC
    rw [e0.1, e0.2]
    rcases fill_eq hA.1.1 hx hm hk hlf hp hX with ⟨-, q1, q2, q3, q4, q5, q6⟩ | ⟨q, -⟩
    · refine ⟨q1.trans rfl, va_up (LN 0) k 0, LF 0, fun k2 hk2 => ?_, q3, hA.1.2.drop q5 q4 q6⟩
      by_cases e : k2 = k
      · subst e
        rw [va_up_self, va_up_self]
        exact xTx.empty
      · rw [va_up_ne _ _ e, va_up_ne _ _ e]
        exact hT 0 (by omega) k2 hk2
    · exact absurd hC q)
  refine ⟨?_, hz, hf⟩
  rw [hrm, hv9]
  rw [e0.1] at hC
  rcases fill_eq hA.1.1 hx hm hk hlf hp hX with ⟨-, -, q2, -⟩ | ⟨q, -⟩
  · rw [q2, va_up_self, e0.1]
  · exact absurd hC q
end RDY
