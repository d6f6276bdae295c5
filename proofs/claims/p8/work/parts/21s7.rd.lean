/-! READS ON BOTH SIDES -/
section RDX
variable {g : xg_T} {x x' : Nat → Nat → Int32} {la la' : Nat → Nat → Nat} {t t' v tm : Nat → Int32} {r rm : Option Value} {E : String} {z : Int32} {n : Nat} {ln : Nat → Nat} {lf : Nat → Nat → Int32} {k : Nat}
theorem AL.t2 {x : Nat → Nat → Int32} {t tm v sv pa : Nat → Int32} {LN : Nat → Nat → Nat} {LF : Nat → Nat → Nat → Int32} {c0 : Nat} (hA : AL x t LN LF c0 tm v sv pa) : t 2 = tm 2 := by
  obtain ⟨-, -, -, h, -, -, e1, e2, -⟩ := hA
  exact e1.trans e2.symm
theorem sOf_n {y u : Nat → Int32} (hA : alk y u) {a : Nat} (ha : a < 6) : sOf y (nI a) = 0 + u (10 + 3 * a + 0) + u (10 + 3 * a + 1) + u (10 + 3 * a + 2) := by
  unfold sOf
  rw [show (0 : Int32) = nI 0 from rfl, show (1 : Int32) = nI 1 from rfl, show (2 : Int32) = nI 2 from rfl, sGet_n ha (by omega), sGet_n ha (by omega), sGet_n ha (by omega), hA.at (by omega), hA.at (by omega), hA.at (by omega)]
theorem stored_eq {y u : Nat → Int32} (hA : alk y u) : sAll y = rStored u 18 := by
  unfold sAll
  rw [show (0 : Int32) = nI 0 from rfl, show (1 : Int32) = nI 1 from rfl, show (2 : Int32) = nI 2 from rfl, show (3 : Int32) = nI 3 from rfl, show (4 : Int32) = nI 4 from rfl, show (5 : Int32) = nI 5 from rfl]
  rw [sOf_n hA (a := 0) (by omega), sOf_n hA (a := 1) (by omega), sOf_n hA (a := 2) (by omega), sOf_n hA (a := 3) (by omega), sOf_n hA (a := 4) (by omega), sOf_n hA (a := 5) (by omega)]
  show _ = hFold (fun _ => true) (fun k => u (10 + k)) 18
  simp only [hFold, if_true, show nI 0 = 0 from rfl, Int32.zero_add, ← Int32.add_assoc]
theorem packed_eq {y u : Nat → Int32} (hA : alk y u) {n : Nat} (hn : n ≤ 20) (e3 : y 3 = nI n) : packedN y 20 = rPacked u n := by
  refine hFold_al (fun k hk => ⟨?_, (hA.row (hA.lt hn e3 hk) (by omega) (by omega)).symm⟩) (fun k hk h20 => ?_) hn
  · show decide (¬ y (28 + 9 * k + 7) = -1 ∧ ¬ y (28 + 9 * k + 7) = 3) = decide (¬ u (28 + 9 * k + 7) = 3)
    rw [hA.row (hA.lt hn e3 hk) (by omega) (by omega)]
    exact decide_eq_decide.mpr ⟨fun q => q.2, fun q => ⟨(hA.2.2 k (by omega)).2 (hA.lt hn e3 hk), q⟩⟩
  · show decide (¬ y (28 + 9 * k + 7) = -1 ∧ ¬ y (28 + 9 * k + 7) = 3) = false
    rw [hA.blank hn e3 hk h20 (by omega)]
    decide
theorem l9_fill (cn : Int32) (ga : Int32) (ki : Int32) (po : Int32) (h : L9_X7_fill g x la t cn ga ki po r x' la' t') : L_X7_fill g x la t cn ga ki po r x' la' t' := by
  obtain ⟨k, x1, la1, x3, x2, la3, la2, b2, t4, v5, c1, c2, c3, c4, c5, c6, c7, c8, c9, d0, d1, -, d2⟩ := h
  exact ⟨k, x1, la1, x3, x2, la3, la2, b2, t4, v5, c1, c2, c3, c4, c5, c6, c7, c8, c9, d0, d1, d2⟩
theorem e9_fill (cn : Int32) (ga : Int32) (ki : Int32) (po : Int32) (h : E9_X7_fill g x la t cn ga ki po E x' la' t') : E_X7_fill g x la t cn ga ki po E x' la' t' := h
end RDX
section RDY
variable {g : xg_T} {w1 : xw_T} {sz1 : Nat} {x x' : Nat → Nat → Int32} {la la' : Nat → Nat → Nat} {t t' tm tm' v v' sv pa pa' : Nat → Int32} {LN : Nat → Nat → Nat} {LF : Nat → Nat → Nat → Int32} {c0 : Nat} {r rm : Option Value} {E : String} {ja jb jc : Int32} {X : Option Value → (Nat → Int32) → (Nat → Int32) → Prop}
theorem al9_fill_y (cn : Int32) (ga : Int32) (ki : Int32) (po : Int32) (hA : AL x t LN LF c0 tm v sv pa) (hT : TX g w1 sz1 la LN LF) (hx : hok (x 0)) (hc : c0 < 2 ^ 30) (h7 : tm' 7 = tm 7) (hP : cP tm v pa (R_X8_fills (upd (upd tm 0 0) 1 0) v cn ga ki po) 1 2 3 rm tm' v' pa') (hL : L9_X7_fill g x la t cn ga ki po r x' la' t') : r = rm ∧ tm' 0 = 0 ∧ aft g w1 sz1 x' la' t' (c0 + 1) tm' v' sv pa' := by
  obtain ⟨k, x1, la1, x3, x2, la3, la2, b2, t4, v5, rfl, hm, hk, hlf, hp, hj, rfl, rfl, hd, hb, rfl, hv9, rfl, rfl, rfl, rfl⟩ := hL
  have hj : pRow x la t _ _ := hj
  have e0 := hj.e0
  obtain ⟨hC, rfl, rfl⟩ : _ ∧ _ ∧ _ := hd.elim (fun q => ⟨q.1, q.2.2.1, q.2.2.2⟩) (fun q => absurd (int0 q.2.1) hb)
  obtain ⟨⟨a, t1, v1, hrm, hX⟩, hz, hf⟩ := (hj.yes (g := g) (w1 := w1) (sz1 := sz1) (x2 := fillX (x1 0) k ga ki po) (l2 := va_up (la1 0) k (g.2 100)) hc hA.h1 rfl rfl rfl).alike hA hT hc h7 hP (fun a t1 v1 hX => by
    rw [e0.1] at hC
    rw [e0.1, e0.2]
    rcases fill_eq hA.1.1 hx hm hk hlf hp hX with ⟨-, q1, q2, q3, q4, q5, q6⟩ | ⟨q, -⟩
    · refine ⟨q1.trans rfl, va_up (LN 0) k 0, LF 0, fun k2 hk2 => ?_, q3, hA.1.2.drop q5 q4 q6⟩
      by_cases e : k2 = k
      · subst e
        rw [va_up_self, va_up_self]
        exact xTx.empty
      · rw [va_up_ne _ _ e, va_up_ne _ _ e]
        exact hT 0 (by omega) k2 hk2
    · exact absurd hC q)
  refine ⟨?_, hz, hf⟩
  rw [hrm, hv9]
  rw [e0.1] at hC
  rcases fill_eq hA.1.1 hx hm hk hlf hp hX with ⟨-, -, q2, -⟩ | ⟨q, -⟩
  · rw [q2, va_up_self, e0.1]
  · exact absurd hC q
end RDY
