/-! READS ON BOTH SIDES -/
section RDX
variable {g : xg_T} {x x' : Nat → Nat → Int32} {la la' : Nat → Nat → Nat} {t t' v tm : Nat → Int32} {r rm : Option Value} {E : String} {z : Int32} {n : Nat} {ln : Nat → Nat} {lf : Nat → Nat → Int32} {k : Nat}
theorem AL.t2 {x : Nat → Nat → Int32} {t tm v sv pa : Nat → Int32} {LN : Nat → Nat → Nat} {LF : Nat → Nat → Nat → Int32} {c0 : Nat} (hA : AL x t LN LF c0 tm v sv pa) : t 2 = tm 2 := by
  obtain ⟨-, -, -, h, -, -, e1, e2, -⟩ := hA
  exact e1.trans e2.symm
theorem sOf_n {y u : Nat → Int32} (hA : alk y u) {a : Nat} (ha : a < 6) : sOf y (nI a) = 0 + u (10 + 3 * a + 0) + u (10 + 3 * a + 1) + u (10 + 3 * a + 2) := by
  unfold sOf
  rw [show (0 : Int32) = nI 0 from rfl, show (1 : Int32) = nI 1 from rfl, show (2 : Int32) = nI 2 from rfl, sGet_n ha (by omega), sGet_n ha (by omega), sGet_n ha (by omega), hA.at (by omega), hA.at (by omega), hA.at (by omega)]
theorem stored_eq {y u : Nat → Int32} (hA : alk y u) : sAll y = rStored u 18 := by
  unfold sAll
  rw [show (0 : Int32) = nI 0 from rfl, show (1 : Int32) = nI 1 from rfl, show (2 : Int32) = nI 2 from rfl, show (3 : Int32) = nI 3 from rfl, show (4 : Int32) = nI 4 from rfl, show (5 : Int32) = nI 5 from rfl]
  rw [sOf_n hA (a := 0) (by omega), sOf_n hA (a := 1) (by omega), sOf_n hA (a := 2) (by omega), sOf_n hA (a := 3) (by omega), sOf_n hA (a := 4) (by omega), sOf_n hA (a := 5) (by omega)]
  show _ = hFold (fun _ => true) (fun k => u (10 + k)) 18
  simp only [hFold, if_true, show nI 0 = 0 from rfl, Int32.zero_add, ← Int32.add_assoc]
theorem packed_eq {y u : Nat → Int32} (hA : alk y u) {n : Nat} (hn : n ≤ 20) (e3 : y 3 = nI n) : packedN y 20 = rPacked u n := by
  refine hFold_al (fun k hk => ⟨?_, (hA.row (hA.lt hn e3 hk) (by omega) (by omega)).symm⟩) (fun k hk h20 => ?_) hn
  · show decide (¬ y (28 + 9 * k + 7) = -1 ∧ ¬ y (28 + 9 * k + 7) = 3) = decide (¬ u (28 + 9 * k + 7) = 3)
    rw [hA.row (hA.lt hn e3 hk) (by omega) (by omega)]
    exact decide_eq_decide.mpr ⟨fun q => q.2, fun q => ⟨(hA.2.2 k (by omega)).2 (hA.lt hn e3 hk), q⟩⟩
  · show decide (¬ y (28 + 9 * k + 7) = -1 ∧ ¬ y (28 + 9 * k + 7) = 3) = false
    rw [hA.blank hn e3 hk h20 (by omega)]
    decide
theorem st_worth {a : Int32} (h : L_X7_worth g x la t a r x' la' t') : x' = x ∧ la' = la ∧ t' = t := by
  obtain ⟨k, v1, -, -, -, -, -, h⟩ := h
  exact h
theorem sx_worth {a : Int32} (h : E_X7_worth g x la t a E x' la' t') : x' = x ∧ la' = la ∧ t' = t := by
  obtain ⟨-, -, h⟩ := h
  exact h
theorem kc_worth {a : Int32} (hE : E_X7_worth g x la t a E x' la' t') : ¬ kc [("java/lang/IndexOutOfBoundsException", 1)] E = 0 := by
  obtain ⟨rfl, -⟩ := hE
  decide +kernel
theorem rd_worth_y (cn : Int32) (hA : hAl (x 0) ln lf v) (_ : hok (x 0)) (hQ : Q_X8_worth n tm v cn rm z) (hL : L_X7_worth g x la t cn r x' la' t') : r = rm ∧ z = 0 := by
  obtain ⟨k, v1, rfl, hm, hk, hv, rfl, -⟩ := hL
  rcases hQ with ⟨kc, e, hmc, hkc, q1, q2⟩ | ⟨q, -⟩
  · obtain rfl := hA.1.kk hk hkc e
    exact ⟨by rw [q2, hv, worth_eq hA.1 hm hk], q1⟩
  · exact chest_in hA.1 hm hk q
theorem rd_worth_n (cn : Int32) (hA : hAl (x 0) ln lf v) (_ : hok (x 0)) (hQ : Q_X8_worth n tm v cn rm z) (hE : E_X7_worth g x la t cn E x' la' t') : z = kc [("java/lang/IndexOutOfBoundsException", 1)] E := by
  obtain ⟨rfl, hc, -⟩ := hE
  rcases hQ with ⟨kc, e, hmc, hkc, -⟩ | ⟨-, q1, -⟩
  · exact chest_bad hA.1 hc e hmc hkc
  · exact q1.trans (by decide +kernel)
end RDX
