/-! EACH CHANGE, ON BOTH SIDES -/
def kc (L : List (String × Int32)) (E : String) : Int32 := (L.lookup E).getD 0
section CALLS
variable {g : xg_T} {w1 : xw_T} {sz1 : Nat} {x x' : Nat → Nat → Int32} {la la' : Nat → Nat → Nat} {t t' tm tm' v v' sv pa pa' : Nat → Int32} {LN : Nat → Nat → Nat} {LF : Nat → Nat → Nat → Int32} {c0 : Nat} {r rm : Option Value} {E : String} {ja jb jc : Int32} {X : Option Value → (Nat → Int32) → (Nat → Int32) → Prop}
theorem kNo.c1 (hk : kNo x la t c0 x' la' t') (hA : AL x t LN LF c0 tm v sv pa) (hT : TX g w1 sz1 la LN LF) (h7 : tm' 7 = tm 7) (hP : cP tm v pa X ja jb jc rm tm' v' pa') (hx : ∀ a t1 v1, X (some (.int a)) t1 v1 → t1 1 = 1) : tm' 0 = ja ∧ aft g w1 sz1 x' la' t' (c0 + 1) tm' v' sv pa' := by
  obtain ⟨⟨a, t1, v1, h1, h2, -, -⟩, h3⟩ := hk.alike hA hT h7 hP (fun a t1 v1 q => by rw [hx a t1 v1 q]; decide)
  exact ⟨h2 (hx a t1 v1 h1), h3⟩
theorem kNo.c2 (hk : kNo x la t c0 x' la' t') (hA : AL x t LN LF c0 tm v sv pa) (hT : TX g w1 sz1 la LN LF) (h7 : tm' 7 = tm 7) (hP : cP tm v pa X ja jb jc rm tm' v' pa') (hx : ∀ a t1 v1, X (some (.int a)) t1 v1 → t1 1 = 2) : tm' 0 = jb ∧ aft g w1 sz1 x' la' t' (c0 + 1) tm' v' sv pa' := by
  obtain ⟨⟨a, t1, v1, h1, -, h2, -⟩, h3⟩ := hk.alike hA hT h7 hP (fun a t1 v1 q => by rw [hx a t1 v1 q]; decide)
  exact ⟨h2 (hx a t1 v1 h1), h3⟩
theorem kNo.c3 (hk : kNo x la t c0 x' la' t') (hA : AL x t LN LF c0 tm v sv pa) (hT : TX g w1 sz1 la LN LF) (h7 : tm' 7 = tm 7) (hP : cP tm v pa X ja jb jc rm tm' v' pa') (hx : ∀ a t1 v1, X (some (.int a)) t1 v1 → t1 1 = 3) : tm' 0 = jc ∧ aft g w1 sz1 x' la' t' (c0 + 1) tm' v' sv pa' := by
  obtain ⟨⟨a, t1, v1, h1, -, -, h2⟩, h3⟩ := hk.alike hA hT h7 hP (fun a t1 v1 q => by rw [hx a t1 v1 q]; decide)
  exact ⟨h2 (hx a t1 v1 h1), h3⟩
theorem AL.h1 (hA : AL x t LN LF c0 tm v sv pa) : t 1 = nI c0 := hA.2.2.1
theorem isLeaf_no {ga ki : Int32} (h : isLeafB ga ki = false) : ¬ isLeafB ga ki = true := by
  rw [h]
  decide
theorem al_line_y (cn : Int32) (hA : AL x t LN LF c0 tm v sv pa) (hT : TX g w1 sz1 la LN LF) (hx : hok (x 0)) (hc : c0 < 2 ^ 30) (h7 : tm' 7 = tm 7) (hP : cP tm v pa (R_X8_linesChest (upd (upd tm 0 0) 1 0) v cn) 1 0 2 rm tm' v' pa') (hL : L_X7_line g x la t cn r x' la' t') : r = rm ∧ tm' 0 = 0 ∧ aft g w1 sz1 x' la' t' (c0 + 1) tm' v' sv pa' := by
  obtain ⟨k, x1, la1, x3, x2, la3, b2, t4, rfl, hm, hk, hj, rfl, rfl, ht, hb, rfl, rfl, rfl, rfl, rfl⟩ := hL
  have hj : pRow x la t _ _ := hj
  have e0 := hj.e0
  obtain ⟨hC, rfl⟩ := tri_y ht hb
  obtain ⟨⟨a, t1, v1, hrm, hX⟩, hz, hf⟩ := (hj.yes (g := g) (w1 := w1) (sz1 := sz1) (x2 := lineX (x1 0) k) (l2 := la1 0) hc hA.h1 rfl rfl rfl).alike hA hT hc h7 hP (fun a t1 v1 hX => by
    rw [e0.1] at hC
    rw [e0.1, e0.2]
    rcases line_eq hA.1.1 hx hm hk hX with ⟨-, q1, q2, q3, q4⟩ | ⟨q, -⟩
    · exact ⟨q1.trans rfl, LN 0, LF 0, hT 0 (by omega), q3, hA.1.2.same q4⟩
    · exact absurd hC q)
  refine ⟨?_, hz, hf⟩
  rw [hrm]
  rw [e0.1] at hC
  rcases line_eq hA.1.1 hx hm hk hX with ⟨-, q1, q2, q3, q4⟩ | ⟨q, -⟩
  · rw [va_up_self, e0.1]
    exact q2.symm
  · exact absurd hC q
theorem al_line_n (cn : Int32) (hA : AL x t LN LF c0 tm v sv pa) (hT : TX g w1 sz1 la LN LF) (hx : hok (x 0)) (hc : c0 < 2 ^ 30) (h7 : tm' 7 = tm 7) (hP : cP tm v pa (R_X8_linesChest (upd (upd tm 0 0) 1 0) v cn) 1 0 2 rm tm' v' pa') (hE : E_X7_line g x la t cn E x' la' t') : tm' 0 = kc [("java/lang/IndexOutOfBoundsException", 1), ("java/lang/UnsupportedOperationException", 2)] E ∧ aft g w1 sz1 x' la' t' (c0 + 1) tm' v' sv pa' := by
  rcases hE with ⟨rfl, hcn, rfl, rfl, rfl⟩ | ⟨k, x1, la1, x3, x2, la3, b2, rfl, hm, hk, hj, rfl, rfl, ht, rfl, hb, rfl, rfl, rfl⟩
  · obtain ⟨q1, q2⟩ := kNo.id.c1 hA hT h7 hP (fun a t1 v1 hX => line_bad hA.1.1 hcn hX)
    exact ⟨q1.trans (by decide +kernel), q2⟩
  · have hj : pRow x la _ _ _ := hj
    have e0 := hj.e0
    obtain ⟨hC, hr⟩ := tri_n ht hb
    obtain ⟨q1, q2⟩ := (hj.no hc hA.h1 rfl rfl rfl hr).c3 hA hT h7 hP (fun a t1 v1 hX => by
      rw [e0.1] at hC
      rcases line_eq hA.1.1 hx hm hk hX with ⟨q, -⟩ | ⟨-, q⟩
      · exact absurd q hC
      · exact q)
    exact ⟨q1.trans (by decide +kernel), q2⟩
theorem al_unscrew_y (cn : Int32) (hA : AL x t LN LF c0 tm v sv pa) (hT : TX g w1 sz1 la LN LF) (hx : hok (x 0)) (hc : c0 < 2 ^ 30) (h7 : tm' 7 = tm 7) (hP : cP tm v pa (R_X8_unscrews (upd (upd tm 0 0) 1 0) v cn) 1 0 2 rm tm' v' pa') (hL : L_X7_unscrew g x la t cn r x' la' t') : r = rm ∧ tm' 0 = 0 ∧ aft g w1 sz1 x' la' t' (c0 + 1) tm' v' sv pa' := by
  obtain ⟨k, x1, la1, x3, x2, la3, b2, t4, rfl, hm, hk, hj, rfl, rfl, ht, hb, rfl, rfl, rfl, rfl, rfl⟩ := hL
  have hj : pRow x la t _ _ := hj
  have e0 := hj.e0
  obtain ⟨hC, rfl⟩ := tri_y ht hb
  obtain ⟨⟨a, t1, v1, hrm, hX⟩, hz, hf⟩ := (hj.yes (g := g) (w1 := w1) (sz1 := sz1) (x2 := unscrewX (x1 0) k) (l2 := la1 0) hc hA.h1 rfl rfl rfl).alike hA hT hc h7 hP (fun a t1 v1 hX => by
    rw [e0.1] at hC
    rw [e0.1, e0.2]
    rcases unscrew_eq hA.1.1 hm hk hX with ⟨-, q1, q2, q3, q4⟩ | ⟨q, -⟩
    · exact ⟨q1.trans rfl, LN 0, LF 0, hT 0 (by omega), q3, hA.1.2.same q4⟩
    · exact absurd hC q)
  refine ⟨?_, hz, hf⟩
  rw [hrm]
  rw [e0.1] at hC
  rcases unscrew_eq hA.1.1 hm hk hX with ⟨-, q1, q2, q3, q4⟩ | ⟨q, -⟩
  · exact q2.symm
  · exact absurd hC q
theorem al_unscrew_n (cn : Int32) (hA : AL x t LN LF c0 tm v sv pa) (hT : TX g w1 sz1 la LN LF) (hx : hok (x 0)) (hc : c0 < 2 ^ 30) (h7 : tm' 7 = tm 7) (hP : cP tm v pa (R_X8_unscrews (upd (upd tm 0 0) 1 0) v cn) 1 0 2 rm tm' v' pa') (hE : E_X7_unscrew g x la t cn E x' la' t') : tm' 0 = kc [("java/lang/IndexOutOfBoundsException", 1), ("java/lang/UnsupportedOperationException", 2)] E ∧ aft g w1 sz1 x' la' t' (c0 + 1) tm' v' sv pa' := by
  rcases hE with ⟨rfl, hcn, rfl, rfl, rfl⟩ | ⟨k, x1, la1, x3, x2, la3, b2, rfl, hm, hk, hj, rfl, rfl, ht, rfl, hb, rfl, rfl, rfl⟩
  · obtain ⟨q1, q2⟩ := kNo.id.c1 hA hT h7 hP (fun a t1 v1 hX => unscrew_bad hA.1.1 hcn hX)
    exact ⟨q1.trans (by decide +kernel), q2⟩
  · have hj : pRow x la _ _ _ := hj
    have e0 := hj.e0
    obtain ⟨hC, hr⟩ := tri_n ht hb
    obtain ⟨q1, q2⟩ := (hj.no hc hA.h1 rfl rfl rfl hr).c3 hA hT h7 hP (fun a t1 v1 hX => by
      rw [e0.1] at hC
      rcases unscrew_eq hA.1.1 hm hk hX with ⟨q, -⟩ | ⟨-, q⟩
      · exact absurd q hC
      · exact q)
    exact ⟨q1.trans (by decide +kernel), q2⟩
theorem al_load_y (cn : Int32) (hA : AL x t LN LF c0 tm v sv pa) (hT : TX g w1 sz1 la LN LF) (hx : hok (x 0)) (hc : c0 < 2 ^ 30) (h7 : tm' 7 = tm 7) (hP : cP tm v pa (R_X8_loads (upd (upd tm 0 0) 1 0) v cn) 1 0 2 rm tm' v' pa') (hL : L_X7_load g x la t cn r x' la' t') : r = rm ∧ tm' 0 = 0 ∧ aft g w1 sz1 x' la' t' (c0 + 1) tm' v' sv pa' := by
  obtain ⟨k, x1, la1, x3, x2, la3, b2, t4, v5, rfl, hm, hk, hj, rfl, rfl, ht, hb, rfl, hv5, rfl, rfl, rfl, rfl⟩ := hL
  have hj : pRow x la t _ _ := hj
  have e0 := hj.e0
  obtain ⟨hC, rfl⟩ := tri_y ht hb
  obtain ⟨⟨a, t1, v1, hrm, hX⟩, hz, hf⟩ := (hj.yes (g := g) (w1 := w1) (sz1 := sz1) (x2 := loadX (x1 0) k) (l2 := la1 0) hc hA.h1 rfl rfl rfl).alike hA hT hc h7 hP (fun a t1 v1 hX => by
    rw [e0.1] at hC
    rw [e0.1, e0.2]
    rcases load_eq hA.1.1 hm hk hX with ⟨-, q1, q2, q3, q4⟩ | ⟨q, -⟩
    · exact ⟨q1.trans rfl, LN 0, LF 0, hT 0 (by omega), q3, hA.1.2.same q4⟩
    · exact absurd hC q)
  refine ⟨?_, hz, hf⟩
  rw [hrm]
  rw [e0.1] at hC
  rcases load_eq hA.1.1 hm hk hX with ⟨-, q1, q2, q3, q4⟩ | ⟨q, -⟩
  · rw [hv5, va_up_self, e0.1]
    exact q2.symm
  · exact absurd hC q
theorem al_load_n (cn : Int32) (hA : AL x t LN LF c0 tm v sv pa) (hT : TX g w1 sz1 la LN LF) (hx : hok (x 0)) (hc : c0 < 2 ^ 30) (h7 : tm' 7 = tm 7) (hP : cP tm v pa (R_X8_loads (upd (upd tm 0 0) 1 0) v cn) 1 0 2 rm tm' v' pa') (hE : E_X7_load g x la t cn E x' la' t') : tm' 0 = kc [("java/lang/IndexOutOfBoundsException", 1), ("java/lang/UnsupportedOperationException", 2)] E ∧ aft g w1 sz1 x' la' t' (c0 + 1) tm' v' sv pa' := by
  rcases hE with ⟨rfl, hcn, rfl, rfl, rfl⟩ | ⟨k, x1, la1, x3, x2, la3, b2, rfl, hm, hk, hj, rfl, rfl, ht, rfl, hb, rfl, rfl, rfl⟩
  · obtain ⟨q1, q2⟩ := kNo.id.c1 hA hT h7 hP (fun a t1 v1 hX => load_bad hA.1.1 hcn hX)
    exact ⟨q1.trans (by decide +kernel), q2⟩
  · have hj : pRow x la _ _ _ := hj
    have e0 := hj.e0
    obtain ⟨hC, hr⟩ := tri_n ht hb
    obtain ⟨q1, q2⟩ := (hj.no hc hA.h1 rfl rfl rfl hr).c3 hA hT h7 hP (fun a t1 v1 hX => by
      rw [e0.1] at hC
      rcases load_eq hA.1.1 hm hk hX with ⟨q, -⟩ | ⟨-, q⟩
      · exact absurd q hC
      · exact q)
    exact ⟨q1.trans (by decide +kernel), q2⟩
theorem al_toQuay_y (cn : Int32) (hA : AL x t LN LF c0 tm v sv pa) (hT : TX g w1 sz1 la LN LF) (hx : hok (x 0)) (hc : c0 < 2 ^ 30) (h7 : tm' 7 = tm 7) (hP : cP tm v pa (R_X8_goesOut (upd (upd tm 0 0) 1 0) v cn) 1 0 2 rm tm' v' pa') (hL : L_X7_toQuay g x la t cn (LN 0) (LF 0) r x' la' t') : r = rm ∧ tm' 0 = 0 ∧ aft g w1 sz1 x' la' t' (c0 + 1) tm' v' sv pa' := by
  obtain ⟨k, x1, la1, x3, x2, la3, b2, t4, v5, rfl, hm, hk, hj, rfl, rfl, ht, hb, rfl, hv5, rfl, rfl, rfl, rfl⟩ := hL
  have hj : pRow x la t _ _ := hj
  have e0 := hj.e0
  obtain ⟨hC, rfl⟩ := tri_y ht hb
  obtain ⟨⟨a, t1, v1, hrm, hX⟩, hz, hf⟩ := (hj.yes (g := g) (w1 := w1) (sz1 := sz1) (x2 := quayX (x1 0) k) (l2 := la1 0) hc hA.h1 rfl rfl rfl).alike hA hT hc h7 hP (fun a t1 v1 hX => by
    rw [e0.1] at hC
    rw [e0.1, e0.2]
    rcases quay_eq hA.1.1 hx hm hk (hA.1.2.ne hm hk) hX with ⟨-, q1, q2, q3, q4⟩ | ⟨q, -⟩
    · exact ⟨q1.trans rfl, LN 0, LF 0, hT 0 (by omega), q3, hA.1.2.same q4⟩
    · exact absurd hC q)
  refine ⟨?_, hz, hf⟩
  rw [hrm]
  rw [e0.1] at hC
  rcases quay_eq hA.1.1 hx hm hk (hA.1.2.ne hm hk) hX with ⟨-, q1, q2, q3, q4⟩ | ⟨q, -⟩
  · rw [hv5, va_up_self, e0.1]
    exact q2.symm
  · exact absurd hC q
theorem al_toQuay_n (cn : Int32) (hA : AL x t LN LF c0 tm v sv pa) (hT : TX g w1 sz1 la LN LF) (hx : hok (x 0)) (hc : c0 < 2 ^ 30) (h7 : tm' 7 = tm 7) (hP : cP tm v pa (R_X8_goesOut (upd (upd tm 0 0) 1 0) v cn) 1 0 2 rm tm' v' pa') (hE : E_X7_toQuay g x la t cn (LN 0) (LF 0) E x' la' t') : tm' 0 = kc [("java/lang/IndexOutOfBoundsException", 1), ("java/lang/UnsupportedOperationException", 2)] E ∧ aft g w1 sz1 x' la' t' (c0 + 1) tm' v' sv pa' := by
  rcases hE with ⟨rfl, hcn, rfl, rfl, rfl⟩ | ⟨k, x1, la1, x3, x2, la3, b2, rfl, hm, hk, hj, rfl, rfl, ht, rfl, hb, rfl, rfl, rfl⟩
  · obtain ⟨q1, q2⟩ := kNo.id.c1 hA hT h7 hP (fun a t1 v1 hX => quay_bad hA.1.1 hcn hX)
    exact ⟨q1.trans (by decide +kernel), q2⟩
  · have hj : pRow x la _ _ _ := hj
    have e0 := hj.e0
    obtain ⟨hC, hr⟩ := tri_n ht hb
    obtain ⟨q1, q2⟩ := (hj.no hc hA.h1 rfl rfl rfl hr).c3 hA hT h7 hP (fun a t1 v1 hX => by
      rw [e0.1] at hC
      rcases quay_eq hA.1.1 hx hm hk (hA.1.2.ne hm hk) hX with ⟨q, -⟩ | ⟨-, q⟩
      · exact absurd q hC
      · exact q)
    exact ⟨q1.trans (by decide +kernel), q2⟩
theorem al_screw_y (cn : Int32) (mn : Int32) (hA : AL x t LN LF c0 tm v sv pa) (hT : TX g w1 sz1 la LN LF) (hx : hok (x 0)) (hc : c0 < 2 ^ 30) (h7 : tm' 7 = tm 7) (hP : cP tm v pa (R_X8_screws (upd (upd tm 0 0) 1 0) v cn mn) 1 2 3 rm tm' v' pa') (hL : L_X7_screw g x la t cn mn r x' la' t') : tm' 0 = 0 ∧ aft g w1 sz1 x' la' t' (c0 + 1) tm' v' sv pa' := by
  obtain ⟨k, x1, la1, x3, x2, la3, b2, t4, v5, rfl, hm, hk, hp, hj, rfl, rfl, ht, hb, rfl, rfl, rfl, rfl, rfl, rfl⟩ := hL
  have hj : pRow x la t _ _ := hj
  have e0 := hj.e0
  obtain ⟨hC, rfl⟩ := tri_y ht hb
  obtain ⟨⟨a, t1, v1, hrm, hX⟩, hz, hf⟩ := (hj.yes (g := g) (w1 := w1) (sz1 := sz1) (x2 := screwX (x1 0) k mn) (l2 := la1 0) hc hA.h1 rfl rfl rfl).alike hA hT hc h7 hP (fun a t1 v1 hX => by
    rw [e0.1] at hC
    rw [e0.1, e0.2]
    rcases screw_eq hA.1.1 hx hm hk hp hX with ⟨-, q1, q2, q3, q4⟩ | ⟨q, -⟩
    · exact ⟨q1.trans rfl, LN 0, LF 0, hT 0 (by omega), q3, hA.1.2.same q4⟩
    · exact absurd hC q)
  exact ⟨hz, hf⟩
theorem al_screw_n (cn : Int32) (mn : Int32) (hA : AL x t LN LF c0 tm v sv pa) (hT : TX g w1 sz1 la LN LF) (hx : hok (x 0)) (hc : c0 < 2 ^ 30) (h7 : tm' 7 = tm 7) (hP : cP tm v pa (R_X8_screws (upd (upd tm 0 0) 1 0) v cn mn) 1 2 3 rm tm' v' pa') (hE : E_X7_screw g x la t cn mn E x' la' t') : tm' 0 = kc [("java/lang/IndexOutOfBoundsException", 1), ("java/lang/IllegalArgumentException", 2), ("java/lang/UnsupportedOperationException", 3)] E ∧ aft g w1 sz1 x' la' t' (c0 + 1) tm' v' sv pa' := by
  rcases hE with ⟨rfl, hcn, rfl, rfl, rfl⟩ | ⟨k, rfl, hm, hk, rfl, hp, rfl, rfl, rfl⟩ | ⟨k, x1, la1, x3, x2, la3, b2, rfl, hm, hk, hp, hj, rfl, rfl, ht, rfl, hb, rfl, rfl, rfl⟩
  · obtain ⟨q1, q2⟩ := kNo.id.c1 hA hT h7 hP (fun a t1 v1 hX => (screw_bad hA.1.1 hX).1 hcn)
    exact ⟨q1.trans (by decide +kernel), q2⟩
  · obtain ⟨q1, q2⟩ := kNo.id.c2 hA hT h7 hP (fun a t1 v1 hX => (screw_bad hA.1.1 hX).2 k hk rfl hm hp)
    exact ⟨q1.trans (by decide +kernel), q2⟩
  · have hj : pRow x la _ _ _ := hj
    have e0 := hj.e0
    obtain ⟨hC, hr⟩ := tri_n ht hb
    obtain ⟨q1, q2⟩ := (hj.no hc hA.h1 rfl rfl rfl hr).c3 hA hT h7 hP (fun a t1 v1 hX => by
      rw [e0.1] at hC
      rcases screw_eq hA.1.1 hx hm hk hp hX with ⟨q, -⟩ | ⟨-, q⟩
      · exact absurd q hC
      · exact q)
    exact ⟨q1.trans (by decide +kernel), q2⟩
theorem al_bring_y (ga : Int32) (ki : Int32) (po : Int32) (hA : AL x t LN LF c0 tm v sv pa) (hT : TX g w1 sz1 la LN LF) (hx : hok (x 0)) (hc : c0 < 2 ^ 30) (h7 : tm' 7 = tm 7) (hP : cP tm v pa (R_X8_brings (upd (upd tm 0 0) 1 0) v ga ki po) 1 2 3 rm tm' v' pa') (hL : L_X7_bring g x la t ga ki po r x' la' t') : r = rm ∧ tm' 0 = 0 ∧ aft g w1 sz1 x' la' t' (c0 + 1) tm' v' sv pa' := by
  obtain ⟨x1, la1, x3, x2, la3, b2, t4, v5, hlf, hp, hj, rfl, rfl, ht, hb, rfl, hv5, rfl, rfl, rfl, rfl⟩ := hL
  have hj : pRow x la t _ _ := hj
  have e0 := hj.e0
  obtain ⟨hC, rfl⟩ := tri_y ht hb
  obtain ⟨⟨a, t1, v1, hrm, hX⟩, hz, hf⟩ := (hj.yes (g := g) (w1 := w1) (sz1 := sz1) (x2 := bringX (x1 0) ga ki po) (l2 := la1 0) hc hA.h1 rfl rfl rfl).alike hA hT hc h7 hP (fun a t1 v1 hX => by
    rw [e0.1] at hC
    rw [e0.1, e0.2]
    rcases bring_eq hA.1.1 hlf hp hX with ⟨-, q1, q2, q3, q4⟩ | ⟨q, -⟩
    · exact ⟨q1.trans rfl, LN 0, LF 0, hT 0 (by omega), q3, hA.1.2.same q4⟩
    · exact absurd hC q)
  refine ⟨?_, hz, hf⟩
  rw [hrm]
  rw [e0.1] at hC
  rcases bring_eq hA.1.1 hlf hp hX with ⟨-, q1, q2, q3, q4⟩ | ⟨q, -⟩
  · rw [hv5, va_up_self, e0.1]
    exact q2.symm
  · exact absurd hC q
theorem al_bring_n (ga : Int32) (ki : Int32) (po : Int32) (hA : AL x t LN LF c0 tm v sv pa) (hT : TX g w1 sz1 la LN LF) (hx : hok (x 0)) (hc : c0 < 2 ^ 30) (h7 : tm' 7 = tm 7) (hP : cP tm v pa (R_X8_brings (upd (upd tm 0 0) 1 0) v ga ki po) 1 2 3 rm tm' v' pa') (hE : E_X7_bring g x la t ga ki po E x' la' t') : tm' 0 = kc [("java/lang/IndexOutOfBoundsException", 1), ("java/lang/IllegalArgumentException", 2), ("java/lang/UnsupportedOperationException", 3)] E ∧ aft g w1 sz1 x' la' t' (c0 + 1) tm' v' sv pa' := by
  rcases hE with ⟨rfl, hlf, rfl, rfl, rfl⟩ | ⟨hlf, rfl, hp, rfl, rfl, rfl⟩ | ⟨x1, la1, x3, x2, la3, b2, hlf, hp, hj, rfl, rfl, ht, rfl, hb, rfl, rfl, rfl⟩
  · obtain ⟨q1, q2⟩ := kNo.id.c1 hA hT h7 hP (fun a t1 v1 hX => (bring_bad hX).1 (isLeaf_no hlf))
    exact ⟨q1.trans (by decide +kernel), q2⟩
  · obtain ⟨q1, q2⟩ := kNo.id.c2 hA hT h7 hP (fun a t1 v1 hX => (bring_bad hX).2 hlf hp)
    exact ⟨q1.trans (by decide +kernel), q2⟩
  · have hj : pRow x la _ _ _ := hj
    have e0 := hj.e0
    obtain ⟨hC, hr⟩ := tri_n ht hb
    obtain ⟨q1, q2⟩ := (hj.no hc hA.h1 rfl rfl rfl hr).c3 hA hT h7 hP (fun a t1 v1 hX => by
      rw [e0.1] at hC
      rcases bring_eq hA.1.1 hlf hp hX with ⟨q, -⟩ | ⟨-, q⟩
      · exact absurd q hC
      · exact q)
    exact ⟨q1.trans (by decide +kernel), q2⟩
theorem al_sail_y (hA : AL x t LN LF c0 tm v sv pa) (hT : TX g w1 sz1 la LN LF) (hx : hok (x 0)) (hc : c0 < 2 ^ 30) (h7 : tm' 7 = tm 7) (hP : cP tm v pa (R_X8_sails (upd (upd tm 0 0) 1 0) v) 0 0 1 rm tm' v' pa') (hL : L_X7_sail g x la t r x' la' t') : r = rm ∧ tm' 0 = 0 ∧ aft g w1 sz1 x' la' t' (c0 + 1) tm' v' sv pa' := by
  obtain ⟨v1, x1, la1, x3, x2, la3, b2, t4, hv5, hj, rfl, rfl, ht, hb, rfl, rfl, rfl, rfl, rfl⟩ := hL
  have hj : pRow x la t _ _ := hj
  have e0 := hj.e0
  obtain ⟨hC, rfl⟩ := tri_y ht hb
  obtain ⟨⟨a, t1, v1, hrm, hX⟩, hz, hf⟩ := (hj.yes (g := g) (w1 := w1) (sz1 := sz1) (x2 := sailX (x1 0)) (l2 := la1 0) hc hA.h1 rfl rfl rfl).alike hA hT hc h7 hP (fun a t1 v1 hX => by
    rw [e0.1] at hC
    rw [e0.1, e0.2]
    rcases sail_eq hA.1.1 hX with ⟨-, q1, q2, q3, q4⟩ | ⟨q, -⟩
    · exact ⟨q1.trans rfl, LN 0, LF 0, hT 0 (by omega), q3, hA.1.2.same q4⟩
    · exact absurd hC q)
  refine ⟨?_, hz, hf⟩
  rw [hrm]
  rw [e0.1] at hC
  rcases sail_eq hA.1.1 hX with ⟨-, q1, q2, q3, q4⟩ | ⟨q, -⟩
  · rw [hv5]
    exact q2.symm
  · exact absurd hC q
theorem al_sail_n (hA : AL x t LN LF c0 tm v sv pa) (hT : TX g w1 sz1 la LN LF) (hx : hok (x 0)) (hc : c0 < 2 ^ 30) (h7 : tm' 7 = tm 7) (hP : cP tm v pa (R_X8_sails (upd (upd tm 0 0) 1 0) v) 0 0 1 rm tm' v' pa') (hE : E_X7_sail g x la t E x' la' t') : tm' 0 = kc [("java/lang/UnsupportedOperationException", 1)] E ∧ aft g w1 sz1 x' la' t' (c0 + 1) tm' v' sv pa' := by
  rcases hE with ⟨v1, x1, la1, x3, x2, la3, b2, hv5, hj, rfl, rfl, ht, rfl, hb, rfl, rfl, rfl⟩
  have hj : pRow x la _ _ _ := hj
  have e0 := hj.e0
  obtain ⟨hC, hr⟩ := tri_n ht hb
  obtain ⟨q1, q2⟩ := (hj.no hc hA.h1 rfl rfl rfl hr).c3 hA hT h7 hP (fun a t1 v1 hX => by
    rw [e0.1] at hC
    rcases sail_eq hA.1.1 hX with ⟨q, -⟩ | ⟨-, q⟩
    · exact absurd q hC
    · exact q)
  exact ⟨q1.trans (by decide +kernel), q2⟩
theorem al_make_y (si : Int32) (hA : AL x t LN LF c0 tm v sv pa) (hT : TX g w1 sz1 la LN LF) (hx : hok (x 0)) (hc : c0 < 2 ^ 30) (h7 : tm' 7 = tm 7) (hP : cP tm v pa (R_X8_makes (upd (upd tm 0 0) 1 0) v si) 0 1 2 rm tm' v' pa') (hL : L_X7_make g x la t si r x' la' t') : r = rm ∧ tm' 0 = 0 ∧ aft g w1 sz1 x' la' t' (c0 + 1) tm' v' sv pa' := by
  obtain ⟨x1, la1, x3, x2, la3, mk, b2, t4, hp, hj, rfl, rfl, hmk, em, ht, hb, rfl, rfl, rfl, rfl, rfl⟩ := hL
  have hj : pRow x la t _ _ := hj
  have e0 := hj.e0
  obtain ⟨hC, rfl⟩ := tri_y ht hb
  rw [e0.1] at em
  obtain ⟨⟨a, t1, v1, hrm, hX⟩, hz, hf⟩ := (hj.yes (g := g) (w1 := w1) (sz1 := sz1) (x2 := makeX (x1 0) mk si) (l2 := la1 0) hc hA.h1 rfl rfl rfl).alike hA hT hc h7 hP (fun a t1 v1 hX => by
    rw [e0.1, e0.2]
    rcases make_eq hA.1.1 hmk em hp hX with ⟨-, q1, q2, q3, q4, q5, q6⟩ | ⟨q, -⟩
    · exact ⟨q1.trans rfl, LN 0, LF 0, hT 0 (by omega), q3, hA.1.2.make hC em q5 q4 q6⟩
    · exact absurd hC (by omega))
  refine ⟨?_, hz, hf⟩
  rw [hrm]
  rcases make_eq hA.1.1 hmk em hp hX with ⟨-, q1, q2, q3, q4, q5, q6⟩ | ⟨q, -⟩
  · rw [va_up_self, e0.1, q5, ← nI_1, Int32.add_sub_cancel]
    exact q2.symm
  · exact absurd hC (by omega)
theorem al_make_n (si : Int32) (hA : AL x t LN LF c0 tm v sv pa) (hT : TX g w1 sz1 la LN LF) (hx : hok (x 0)) (hc : c0 < 2 ^ 30) (h7 : tm' 7 = tm 7) (hP : cP tm v pa (R_X8_makes (upd (upd tm 0 0) 1 0) v si) 0 1 2 rm tm' v' pa') (hE : E_X7_make g x la t si E x' la' t') : tm' 0 = kc [("java/lang/IllegalArgumentException", 1), ("java/lang/UnsupportedOperationException", 2)] E ∧ aft g w1 sz1 x' la' t' (c0 + 1) tm' v' sv pa' := by
  rcases hE with ⟨rfl, hp, rfl, rfl, rfl⟩ | ⟨x1, la1, x3, x2, la3, mk, b2, hp, hj, rfl, rfl, hmk, em, ht, rfl, hb, rfl, rfl, rfl⟩
  · obtain ⟨q1, q2⟩ := kNo.id.c2 hA hT h7 hP (fun a t1 v1 hX => make_bad hp hX)
    exact ⟨q1.trans (by decide +kernel), q2⟩
  · have hj : pRow x la _ _ _ := hj
    have e0 := hj.e0
    obtain ⟨hC, hr⟩ := tri_n ht hb
    rw [e0.1] at em
    obtain ⟨q1, q2⟩ := (hj.no hc hA.h1 rfl rfl rfl hr).c3 hA hT h7 hP (fun a t1 v1 hX => by
      rcases make_eq hA.1.1 hmk em hp hX with ⟨q, -⟩ | ⟨-, q⟩
      · exact absurd q hC
      · exact q)
    exact ⟨q1.trans (by decide +kernel), q2⟩
theorem al_setHumidity_y (hu : Int32) (hA : AL x t LN LF c0 tm v sv pa) (hT : TX g w1 sz1 la LN LF) (hx : hok (x 0)) (hc : c0 < 2 ^ 30) (h7 : tm' 7 = tm 7) (hP : cP tm v pa (R_X8_humid (upd (upd tm 0 0) 1 0) v hu) 0 1 0 rm tm' v' pa') (hL : L_X7_setHumidity g x la t hu r x' la' t') : r = rm ∧ tm' 0 = 0 ∧ aft g w1 sz1 x' la' t' (c0 + 1) tm' v' sv pa' := by
  obtain ⟨x1, la1, t4, x3, la3, hp, hj, rfl, rfl, rfl, rfl, rfl, rfl, rfl⟩ := hL
  have hj : pRow x la t _ _ := hj
  have e0 := hj.e0
  obtain ⟨⟨a, t1, v1, hrm, hX⟩, hz, hf⟩ := (hj.yes (g := g) (w1 := w1) (sz1 := sz1) (x2 := upd (x1 0) 5 hu) (l2 := la1 0) hc hA.h1 rfl rfl rfl).alike hA hT hc h7 hP (fun a t1 v1 hX => by
    rw [e0.1, e0.2]
    obtain ⟨q1, q2, q3, q4⟩ := humid_eq hA.1.1 hp hX
    exact ⟨q1.trans rfl, LN 0, LF 0, hT 0 (by omega), q3, hA.1.2.same q4⟩)
  refine ⟨?_, hz, hf⟩
  rw [hrm]
  exact (humid_eq hA.1.1 hp hX).2.1.symm
theorem al_setHumidity_n (hu : Int32) (hA : AL x t LN LF c0 tm v sv pa) (hT : TX g w1 sz1 la LN LF) (hx : hok (x 0)) (hc : c0 < 2 ^ 30) (h7 : tm' 7 = tm 7) (hP : cP tm v pa (R_X8_humid (upd (upd tm 0 0) 1 0) v hu) 0 1 0 rm tm' v' pa') (hE : E_X7_setHumidity g x la t hu E x' la' t') : tm' 0 = kc [("java/lang/IllegalArgumentException", 1)] E ∧ aft g w1 sz1 x' la' t' (c0 + 1) tm' v' sv pa' := by
  rcases hE with ⟨rfl, hp, rfl, rfl, rfl⟩
  obtain ⟨q1, q2⟩ := kNo.id.c2 hA hT h7 hP (fun a t1 v1 hX => humid_bad hp hX)
  exact ⟨q1.trans (by decide +kernel), q2⟩
theorem al_pass_y (hs : Int32) (hA : AL x t LN LF c0 tm v sv pa) (hT : TX g w1 sz1 la LN LF) (hx : hok (x 0)) (hc : c0 < 2 ^ 30) (h7 : tm' 7 = tm 7) (hP : cP tm v pa (R_X8_passes (upd (upd tm 0 0) 1 0) v hs) 0 1 0 rm tm' v' pa') (hL : L_X7_pass g x la t hs r x' la' t') : r = rm ∧ tm' 0 = 0 ∧ aft g w1 sz1 x' la' t' (c0 + 1) tm' v' sv pa' := by
  obtain ⟨x1, la1, t4, nh, x3, la3, v4, hp, hj, rfl, rfl, hnh, rfl, rfl, hv5, rfl, rfl, rfl, rfl⟩ := hL
  have hj : pRow x la t _ _ := hj
  have e0 := hj.e0
  have h1 : 1 ≤ nh := (nI_leI (a := 1) (by omega) (by omega)).mp hp.1
  obtain ⟨⟨a, t1, v1, hrm, hX⟩, hz, hf⟩ := (hj.yes (g := g) (w1 := w1) (sz1 := sz1) (x2 := passN (x1 0) nh) (l2 := la1 0) hc hA.h1 rfl rfl rfl).alike hA hT hc h7 hP (fun a t1 v1 hX => by
    rw [e0.1, e0.2]
    obtain ⟨q1, q2, q3, q4⟩ := pass_eq hA.1.1 hx hnh h1 hX
    exact ⟨q1.trans rfl, LN 0, LF 0, hT 0 (by omega), q3, hA.1.2.same q4⟩)
  refine ⟨?_, hz, hf⟩
  rw [hrm]
  rw [hv5, va_up_self, e0.1]
  exact (pass_eq hA.1.1 hx hnh h1 hX).2.1.symm
theorem al_pass_n (hs : Int32) (hA : AL x t LN LF c0 tm v sv pa) (hT : TX g w1 sz1 la LN LF) (hx : hok (x 0)) (hc : c0 < 2 ^ 30) (h7 : tm' 7 = tm 7) (hP : cP tm v pa (R_X8_passes (upd (upd tm 0 0) 1 0) v hs) 0 1 0 rm tm' v' pa') (hE : E_X7_pass g x la t hs E x' la' t') : tm' 0 = kc [("java/lang/IllegalArgumentException", 1)] E ∧ aft g w1 sz1 x' la' t' (c0 + 1) tm' v' sv pa' := by
  rcases hE with ⟨rfl, hp, rfl, rfl, rfl⟩
  obtain ⟨q1, q2⟩ := kNo.id.c2 hA hT h7 hP (fun a t1 v1 hX => pass_bad hp hX)
  exact ⟨q1.trans (by decide +kernel), q2⟩
theorem al_empty_y (cn : Int32) (hA : AL x t LN LF c0 tm v sv pa) (hT : TX g w1 sz1 la LN LF) (hx : hok (x 0)) (hc : c0 < 2 ^ 30) (h7 : tm' 7 = tm 7) (hP : cP tm v pa (R_X8_empties (upd (upd tm 0 0) 1 0) v cn) 1 0 2 rm tm' v' pa') (hL : L_X7_empty g x la t cn r x' la' t') : r = rm ∧ tm' 0 = 0 ∧ aft g w1 sz1 x' la' t' (c0 + 1) tm' v' sv pa' := by
  obtain ⟨k, x1, la1, x3, x2, la3, la2, b2, t4, rfl, hm, hk, hj, rfl, rfl, hd, hb, rfl, rfl, rfl, rfl, rfl⟩ := hL
  have hj : pRow x la t _ _ := hj
  have e0 := hj.e0
  obtain ⟨hC, rfl, rfl⟩ : _ ∧ _ ∧ _ := hd.elim (fun q => ⟨q.1, q.2.2.1, q.2.2.2⟩) (fun q => absurd (int0 q.2.1) hb)
  obtain ⟨⟨a, t1, v1, hrm, hX⟩, hz, hf⟩ := (hj.yes (g := g) (w1 := w1) (sz1 := sz1) (x2 := emptyX (x1 0) k) (l2 := va_up (la1 0) k (g.2 100)) hc hA.h1 rfl rfl rfl).alike hA hT hc h7 hP (fun a t1 v1 hX => by
    rw [e0.1] at hC
    rw [e0.1, e0.2]
    rcases empty_eq hA.1.1 hx hm hk hX with ⟨-, q1, q2, q3, q4, q5, q6⟩ | ⟨q, -⟩
    · refine ⟨q1.trans rfl, va_up (LN 0) k 0, LF 0, fun k2 hk2 => ?_, q3, hA.1.2.drop q5 q4 q6⟩
      by_cases e : k2 = k
      · subst e
        rw [va_up_self, va_up_self]
        exact xTx.empty
      · rw [va_up_ne _ _ e, va_up_ne _ _ e]
        exact hT 0 (by omega) k2 hk2
    · exact absurd hC q)
  refine ⟨?_, hz, hf⟩
  rw [hrm]
  rw [e0.1] at hC
  rcases empty_eq hA.1.1 hx hm hk hX with ⟨-, q1, q2, q3⟩ | ⟨q, -⟩
  · exact q2.symm
  · exact absurd hC q
theorem al_empty_n (cn : Int32) (hA : AL x t LN LF c0 tm v sv pa) (hT : TX g w1 sz1 la LN LF) (hx : hok (x 0)) (hc : c0 < 2 ^ 30) (h7 : tm' 7 = tm 7) (hP : cP tm v pa (R_X8_empties (upd (upd tm 0 0) 1 0) v cn) 1 0 2 rm tm' v' pa') (hE : E_X7_empty g x la t cn E x' la' t') : tm' 0 = kc [("java/lang/IndexOutOfBoundsException", 1), ("java/lang/UnsupportedOperationException", 2)] E ∧ aft g w1 sz1 x' la' t' (c0 + 1) tm' v' sv pa' := by
  rcases hE with ⟨rfl, hcn, rfl, rfl, rfl⟩ | ⟨k, x1, la1, x3, x2, la3, la2, b2, rfl, hm, hk, hj, rfl, rfl, hd, rfl, hb, rfl, rfl, rfl⟩
  · obtain ⟨q1, q2⟩ := kNo.id.c1 hA hT h7 hP (fun a t1 v1 hX => empty_bad hA.1.1 hcn hX)
    exact ⟨q1.trans (by decide +kernel), q2⟩
  · have hj : pRow x la _ _ _ := hj
    have e0 := hj.e0
    obtain ⟨hC, hr, rfl⟩ : _ ∧ _ ∧ _ := hd.elim (fun q => absurd ((int1 q.2.1).symm.trans hb) (by decide)) (fun q => ⟨q.1, q.2.2.1, q.2.2.2⟩)
    obtain ⟨q1, q2⟩ := (hj.no hc hA.h1 rfl rfl rfl hr).c3 hA hT h7 hP (fun a t1 v1 hX => by
      rw [e0.1] at hC
      rcases empty_eq hA.1.1 hx hm hk hX with ⟨q, -⟩ | ⟨-, q⟩
      · exact absurd q hC
      · exact q)
    exact ⟨q1.trans (by decide +kernel), q2⟩
theorem al_fill_y (cn : Int32) (ga : Int32) (ki : Int32) (po : Int32) (hA : AL x t LN LF c0 tm v sv pa) (hT : TX g w1 sz1 la LN LF) (hx : hok (x 0)) (hc : c0 < 2 ^ 30) (h7 : tm' 7 = tm 7) (hP : cP tm v pa (R_X8_fills (upd (upd tm 0 0) 1 0) v cn ga ki po) 1 2 3 rm tm' v' pa') (hL : L_X7_fill g x la t cn ga ki po r x' la' t') : tm' 0 = 0 ∧ aft g w1 sz1 x' la' t' (c0 + 1) tm' v' sv pa' := by
  obtain ⟨k, x1, la1, x3, x2, la3, la2, b2, t4, v5, rfl, hm, hk, hlf, hp, hj, rfl, rfl, hd, hb, rfl, rfl, rfl, rfl, rfl⟩ := hL
  have hj : pRow x la t _ _ := hj
  have e0 := hj.e0
  obtain ⟨hC, rfl, rfl⟩ : _ ∧ _ ∧ _ := hd.elim (fun q => ⟨q.1, q.2.2.1, q.2.2.2⟩) (fun q => absurd (int0 q.2.1) hb)
  obtain ⟨⟨a, t1, v1, hrm, hX⟩, hz, hf⟩ := (hj.yes (g := g) (w1 := w1) (sz1 := sz1) (x2 := fillX (x1 0) k ga ki po) (l2 := va_up (la1 0) k (g.2 100)) hc hA.h1 rfl rfl rfl).alike hA hT hc h7 hP (fun a t1 v1 hX => by
    rw [e0.1] at hC
    rw [e0.1, e0.2]
    rcases fill_eq hA.1.1 hx hm hk hlf hp hX with ⟨-, q1, q2, q3, q4, q5, q6⟩ | ⟨q, -⟩
    · refine ⟨q1.trans rfl, va_up (LN 0) k 0, LF 0, fun k2 hk2 => ?_, q3, hA.1.2.drop q5 q4 q6⟩
      by_cases e : k2 = k
      · subst e
        rw [va_up_self, va_up_self]
        exact xTx.empty
      · rw [va_up_ne _ _ e, va_up_ne _ _ e]
        exact hT 0 (by omega) k2 hk2
    · exact absurd hC q)
  exact ⟨hz, hf⟩
theorem al_fill_n (cn : Int32) (ga : Int32) (ki : Int32) (po : Int32) (hA : AL x t LN LF c0 tm v sv pa) (hT : TX g w1 sz1 la LN LF) (hx : hok (x 0)) (hc : c0 < 2 ^ 30) (h7 : tm' 7 = tm 7) (hP : cP tm v pa (R_X8_fills (upd (upd tm 0 0) 1 0) v cn ga ki po) 1 2 3 rm tm' v' pa') (hE : E_X7_fill g x la t cn ga ki po E x' la' t') : tm' 0 = kc [("java/lang/IndexOutOfBoundsException", 1), ("java/lang/IllegalArgumentException", 2), ("java/lang/UnsupportedOperationException", 3)] E ∧ aft g w1 sz1 x' la' t' (c0 + 1) tm' v' sv pa' := by
  rcases hE with ⟨rfl, hcn, rfl, rfl, rfl⟩ | ⟨k, rfl, hm, hk, rfl, hlf, rfl, rfl, rfl⟩ | ⟨k, rfl, hm, hk, hlf, rfl, hp, rfl, rfl, rfl⟩ | ⟨k, x1, la1, x3, x2, la3, la2, b2, rfl, hm, hk, hlf, hp, hj, rfl, rfl, hd, rfl, hb, rfl, rfl, rfl⟩
  · obtain ⟨q1, q2⟩ := kNo.id.c1 hA hT h7 hP (fun a t1 v1 hX => (fill_bad hA.1.1 hX).1 hcn)
    exact ⟨q1.trans (by decide +kernel), q2⟩
  · obtain ⟨q1, q2⟩ := kNo.id.c1 hA hT h7 hP (fun a t1 v1 hX => (fill_bad hA.1.1 hX).2.1 (isLeaf_no hlf))
    exact ⟨q1.trans (by decide +kernel), q2⟩
  · obtain ⟨q1, q2⟩ := kNo.id.c2 hA hT h7 hP (fun a t1 v1 hX => (fill_bad hA.1.1 hX).2.2 k hk rfl hm hlf hp)
    exact ⟨q1.trans (by decide +kernel), q2⟩
  · have hj : pRow x la _ _ _ := hj
    have e0 := hj.e0
    obtain ⟨hC, hr, rfl⟩ : _ ∧ _ ∧ _ := hd.elim (fun q => absurd ((int1 q.2.1).symm.trans hb) (by decide)) (fun q => ⟨q.1, q.2.2.1, q.2.2.2⟩)
    obtain ⟨q1, q2⟩ := (hj.no hc hA.h1 rfl rfl rfl hr).c3 hA hT h7 hP (fun a t1 v1 hX => by
      rw [e0.1] at hC
      rcases fill_eq hA.1.1 hx hm hk hlf hp hX with ⟨q, -⟩ | ⟨-, q⟩
      · exact absurd q hC
      · exact q)
    exact ⟨q1.trans (by decide +kernel), q2⟩
theorem al_label_y (cn : Int32) (hA : AL x t LN LF c0 tm v sv pa) (hT : TX g w1 sz1 la LN LF) (hx : hok (x 0)) (hc : c0 < 2 ^ 30) (h7 : tm' 7 = tm 7) (hP : cP tm v pa (R_X8_labels (upd (upd tm 0 0) 1 0) v cn) 1 0 2 rm tm' v' pa') (hL : L_X7_label g w1 sz1 x la t cn r x' la' t') : tm' 0 = 0 ∧ aft g w1 sz1 x' la' t' (c0 + 1) tm' v' sv pa' := by
  obtain ⟨k, x1, la1, b2, xb, lb, t4, rfl, hm, hk, hj, hlb, hb, rfl, rfl, rfl, rfl, rfl⟩ := hL
  have hj : pRow x la t _ _ := hj
  have e0 := hj.e0
  obtain ⟨hO, rfl, a9, rfl, hT9⟩ : labelOk (x1 0) k ∧ _ := hlb.elim (fun q => ⟨q.1, q.2.2⟩) (fun q => absurd q.2.1 hb)
  obtain ⟨⟨a, t1, v1, hrm, hX⟩, hz, hf⟩ := (hj.yes (g := g) (w1 := w1) (sz1 := sz1) (x2 := x1 0) (l2 := va_up (la1 0) k a9) hc hA.h1 rfl rfl rfl).alike hA hT hc h7 hP (fun a t1 v1 hX => by
    rw [e0.1] at hO hT9 ⊢
    rw [e0.2]
    rcases label_eq hA.1.1 hx hm hk hX with ⟨-, q1, q2⟩ | ⟨q, -⟩
    · refine ⟨q1.trans rfl, va_up (LN 0) k (labLen (x 0) k), va_up (LF 0) k (labTxt (x 0) k), fun k2 hk2 => ?_, by rw [q2]; exact hA.1.1.lab, by rw [q2]; exact hA.1.2.mark hm hO.2⟩
      by_cases e : k2 = k
      · subst e
        rw [va_up_self, va_up_self, va_up_self]
        exact hT9
      · rw [va_up_ne _ _ e, va_up_ne _ _ e, va_up_ne _ _ e]
        exact hT 0 (by omega) k2 hk2
    · exact absurd hO q)
  exact ⟨hz, hf⟩
theorem al_label_n (cn : Int32) (hA : AL x t LN LF c0 tm v sv pa) (hT : TX g w1 sz1 la LN LF) (hx : hok (x 0)) (hc : c0 < 2 ^ 30) (h7 : tm' 7 = tm 7) (hP : cP tm v pa (R_X8_labels (upd (upd tm 0 0) 1 0) v cn) 1 0 2 rm tm' v' pa') (hE : E_X7_label g x la t cn E x' la' t') : tm' 0 = kc [("java/lang/IndexOutOfBoundsException", 1), ("java/lang/UnsupportedOperationException", 2)] E ∧ aft g w1 sz1 x' la' t' (c0 + 1) tm' v' sv pa' := by
  rcases hE with ⟨rfl, hcn, rfl, rfl, rfl⟩ | ⟨k, x1, la1, w9, s9, b2, xb, lb, rfl, hm, hk, hj, hlb, rfl, hb, rfl, rfl, rfl⟩
  · obtain ⟨q1, q2⟩ := kNo.id.c1 hA hT h7 hP (fun a t1 v1 hX => label_bad hA.1.1 hcn hX)
    exact ⟨q1.trans (by decide +kernel), q2⟩
  · have hj : pRow x la _ _ _ := hj
    have e0 := hj.e0
    obtain ⟨hC, x9, hr, rfl, rfl⟩ : ¬ labelOk (x1 0) k ∧ ∃ x9, refd (x1 0) x9 ∧ _ := hlb.elim (fun q => absurd (q.2.1.symm.trans hb) (by decide)) (fun q => ⟨q.1, q.2.2⟩)
    obtain ⟨q1, q2⟩ := (hj.no hc hA.h1 rfl rfl rfl hr).c3 hA hT h7 hP (fun a t1 v1 hX => by
      rw [e0.1] at hC
      rcases label_eq hA.1.1 hx hm hk hX with ⟨q, -⟩ | ⟨-, q⟩
      · exact absurd q hC
      · exact q)
    exact ⟨q1.trans (by decide +kernel), q2⟩
end CALLS
