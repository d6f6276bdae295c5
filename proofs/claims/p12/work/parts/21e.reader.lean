/-! THE TEXT, EXACTLY: what stands at a place -/
def sgn (n : Nat) (sg : Nat → Int32) (p : Nat) : Int32 := sgAt n sg (nI p)
def dgt (n : Nat) (sg : Nat → Int32) (p : Nat) : Bool := decide (48 ≤ sgn n sg p ∧ sgn n sg p ≤ 57)
theorem dgt_mk {n : Nat} {sg : Nat → Int32} {p : Nat} (h1 : 48 ≤ sgn n sg p) (h2 : sgn n sg p ≤ 57) : dgt n sg p = true := decide_eq_true ⟨h1, h2⟩
theorem dgt_of {n : Nat} {sg : Nat → Int32} {p : Nat} (h : dgt n sg p = true) : 48 ≤ sgn n sg p ∧ sgn n sg p ≤ 57 := of_decide_eq_true h
def dv (n : Nat) (sg : Nat → Int32) (p : Nat) : Nat := (sgn n sg p - 48).toNatClampNeg
def vN (n : Nat) (sg : Nat → Int32) (p : Nat) : Nat := if dgt n sg (p + 1) then 10 * dv n sg p + dv n sg (p + 1) else dv n sg p
def qN (n : Nat) (sg : Nat → Int32) (p : Nat) : Nat := if dgt n sg (p + 1) then p + 1 + 1 else p + 1
def wl (w : Nat) : Nat := [5, 5, 6, 6, 5, 5, 4, 6, 4, 6, 4].getD w 0
def wc (w j : Nat) : Int32 := sgM (7 * w + j)
def mt (n : Nat) (sg : Nat → Int32) (p w j : Nat) : Bool := decide (sgn n sg (p + j) = wc w j)
/-- how many lead -/
def al (m : Nat → Bool) : Nat → Nat
  | 0 => 0
  | L + 1 => if al m L = L then (if m L = true then L + 1 else L) else al m L
def alw (n : Nat) (sg : Nat → Int32) (p w : Nat) : Nat := al (mt n sg p w) (wl w)
/-- the first of c from a on, or a + c -/
def fst1 (f : Nat → Bool) (a : Nat) : Nat → Nat
  | 0 => a
  | c + 1 => if fst1 f a c = a + c then (if f (a + c) = true then a + c else a + c + 1) else fst1 f a c
def mx1 (h : Nat → Nat) (a : Nat) : Nat → Nat
  | 0 => 0
  | c + 1 => if mx1 h a c < h (a + c) then h (a + c) else mx1 h a c
def isW (n : Nat) (sg : Nat → Int32) (p w : Nat) : Bool := decide (alw n sg p w = wl w)
def fwd (n : Nat) (sg : Nat → Int32) (p a c : Nat) : Nat := fst1 (isW n sg p) a c
def pwd (n : Nat) (sg : Nat → Int32) (p a c : Nat) : Nat := if fwd n sg p a c = a + c then p + mx1 (alw n sg p) a c else p + wl (fwd n sg p a c)
theorem al_le (m : Nat → Bool) : ∀ L, al m L ≤ L := by
  intro L
  induction L with
  | zero => exact Nat.le_refl _
  | succ L ih =>
    unfold al
    split
    · split <;> omega
    · omega
theorem al_go {m : Nat → Bool} {i : Nat} (h : al m i = i) (hm : m i = true) : al m (i + 1) = i + 1 := by
  unfold al
  rw [if_pos h, if_pos hm]
theorem al_stop {m : Nat → Bool} {i : Nat} (h : al m i = i) (hm : m i = false) : ∀ L, i < L → al m L = i := by
  intro L
  induction L with
  | zero => intro hL; omega
  | succ L ih =>
    intro hL
    unfold al
    by_cases e : i = L
    · subst e
      rw [if_pos h, if_neg (by rw [hm]; decide)]
    · have := ih (by omega)
      rw [if_neg (by omega)]
      exact this
theorem al_cg {m m' : Nat → Bool} : ∀ L, (∀ j, j < L → m j = m' j) → al m L = al m' L := by
  intro L
  induction L with
  | zero => intro _; rfl
  | succ L ih =>
    intro h
    unfold al
    rw [ih (fun j hj => h j (by omega)), h L (by omega)]
theorem al_in {m : Nat → Bool} : ∀ L i, i < al m L → m i = true := by
  intro L
  induction L with
  | zero => intro i hi; exact absurd hi (Nat.not_lt_zero _)
  | succ L ih =>
    intro i hi
    unfold al at hi
    split at hi
    · rename_i e
      split at hi
      · rename_i e2
        by_cases e3 : i = L
        · subst e3; exact e2
        · exact ih i (by omega)
      · exact ih i (by omega)
    · exact ih i hi
theorem al_out {m : Nat → Bool} : ∀ L, al m L < L → m (al m L) = false := by
  intro L
  induction L with
  | zero => intro h; exact absurd h (Nat.not_lt_zero _)
  | succ L ih =>
    intro h
    unfold al at h ⊢
    by_cases e : al m L = L
    · rw [if_pos e] at h ⊢
      by_cases e2 : m L = true
      · rw [if_pos e2] at h
        omega
      · rw [if_neg e2]
        exact Bool.eq_false_iff.mpr e2
    · rw [if_neg e]
      exact ih (by have := al_le m L; omega)
theorem fst_go {f : Nat → Bool} {a i : Nat} (h : fst1 f a i = a + i) (hf : f (a + i) = false) : fst1 f a (i + 1) = a + (i + 1) := by
  unfold fst1
  rw [if_pos h, if_neg (by rw [hf]; decide)]
  rfl
theorem fst_hit {f : Nat → Bool} {a i : Nat} (h : fst1 f a i = a + i) (hf : f (a + i) = true) : ∀ c, i < c → fst1 f a c = a + i := by
  intro c
  induction c with
  | zero => intro hc; omega
  | succ c ih =>
    intro hc
    unfold fst1
    by_cases e : i = c
    · subst e
      rw [if_pos h, if_pos hf]
    · have := ih (by omega)
      rw [if_neg (by omega)]
      exact this
theorem mx_go (h : Nat → Nat) (a i : Nat) : mx1 h a (i + 1) = if mx1 h a i < h (a + i) then h (a + i) else mx1 h a i := rfl
theorem mx_add (q a b : Nat) : (if q + a < q + b then q + b else q + a) = q + if a < b then b else a := by
  by_cases h : a < b
  · rw [if_pos h, if_pos (by omega)]
  · rw [if_neg h, if_neg (by omega)]
theorem mx_le {h : Nat → Nat} {a b : Nat} : ∀ c, (∀ i, i < c → h (a + i) ≤ b) → mx1 h a c ≤ b := by
  intro c
  induction c with
  | zero => intro _; exact Nat.zero_le _
  | succ c ih =>
    intro hb
    have h1 := ih (fun i hi => hb i (by omega))
    have h2 := hb c (by omega)
    rw [mx_go]
    split <;> omega
theorem wl_c : (∀ w, w < 8 → xlen.getD (5 + w) 0 = wl w ∧ ∀ j, j < wl w → (xbyt.getD (5 + w) []).getD j 0 = wc w j) ∧ ∀ w, w < 3 → xlen.getD (2 + w) 0 = wl (8 + w) ∧ ∀ j, j < wl (8 + w) → (xbyt.getD (2 + w) []).getD j 0 = wc (8 + w) j := by decide +kernel
theorem sgn_in {n : Nat} {sg : Nat → Int32} {p : Nat} (hn : n ≤ 60) (hp : p < 1000) (h : ¬ sgn n sg p = -1) : p < n := sgAt_in hn hp h
theorem dgt_in {n : Nat} {sg : Nat → Int32} {p : Nat} (hn : n ≤ 60) (hp : p < 1000) (h : dgt n sg p) : p < n := sgn_in hn hp (fun e => by
  have := (dgt_of h).1
  rw [e] at this
  exact absurd this (by decide))
theorem dv_ok {n : Nat} {sg : Nat → Int32} {p : Nat} (h : dgt n sg p) : dv n sg p < 10 ∧ sgn n sg p - 48 = nI (dv n sg p) := by
  obtain ⟨h1, h2⟩ := dgt_of h
  rw [Int32.le_iff_toInt_le] at h1 h2
  have h1 : (48 : Int) ≤ (sgn n sg p).toInt := h1
  have h2 : (sgn n sg p).toInt ≤ 57 := h2
  have e : (sgn n sg p - 48).toInt = (sgn n sg p).toInt - 48 := by
    rw [Int32.toInt_sub]
    show ((sgn n sg p).toInt - 48).bmod (2 ^ 32) = _
    exact Int.bmod_eq_of_le (by omega) (by omega)
  obtain ⟨d, hd, e2⟩ : ∃ d : Nat, d < 10 ∧ sgn n sg p - 48 = nI d := ⟨((sgn n sg p).toInt - 48).toNat, by omega, Int32.toInt_inj.mp (by rw [e, nI_toInt (by omega)]; omega)⟩
  unfold dv
  rw [e2, nI_clamp (by omega)]
  exact ⟨hd, rfl⟩
theorem vN_lt {n : Nat} {sg : Nat → Int32} {p : Nat} (h : dgt n sg p) : vN n sg p < 100 := by
  have := dv_ok h
  unfold vN
  split
  · rename_i h2
    have := dv_ok h2
    omega
  · omega
theorem qN_le (n : Nat) (sg : Nat → Int32) (p : Nat) : qN n sg p ≤ p + 2 := by
  unfold qN
  split <;> omega
theorem tOk_f {n : Nat} {tt : Nat → Int32} (h : tOk n tt) {q : Nat} (hq : tt 2 = nI q) (hq9 : q < 2000) : q ≤ 60 := by
  obtain ⟨-, -, -, m, hm, e⟩ := h
  have := (nI_eq (by omega) (by omega)).mp (e.symm.trans hq)
  omega
theorem wl_le : ∀ w, wl w ≤ 6 := by
  intro w
  rcases Nat.lt_or_ge w 11 with h | h
  · exact (show ∀ w, w < 11 → wl w ≤ 6 by decide) w h
  · have : wl w = 0 := by
      unfold wl
      rw [List.getD_eq_getElem?_getD, List.getElem?_eq_none (by exact h)]
      rfl
    omega
theorem alw_le (n : Nat) (sg : Nat → Int32) (p w : Nat) : alw n sg p w ≤ 6 := Nat.le_trans (al_le _ _) (wl_le w)
theorem mxw_le (n : Nat) (sg : Nat → Int32) (p a c : Nat) : mx1 (alw n sg p) a c ≤ 6 := mx_le c (fun i _ => alw_le n sg p _)
theorem pwd_y {n : Nat} {sg : Nat → Int32} {p a c i : Nat} (h : fwd n sg p a c = a + i) (hi : i < c) : pwd n sg p a c = p + wl (a + i) := by
  unfold pwd
  rw [h, if_neg (by omega)]
theorem pwd_n {n : Nat} {sg : Nat → Int32} {p a c : Nat} (h : fwd n sg p a c = a + c) : pwd n sg p a c = p + mx1 (alw n sg p) a c := by
  unfold pwd
  rw [if_pos h]
theorem pwd_le (n : Nat) (sg : Nat → Int32) (p a c : Nat) : pwd n sg p a c ≤ p + 6 := by
  unfold pwd
  have := mxw_le n sg p a c
  have := wl_le (fwd n sg p a c)
  split <;> omega
/-- where the parts of a command end: its verb, its chest, a blank, a digit, a point, a kind, a blank, a number -/
def c1 (n : Nat) (sg : Nat → Int32) (p : Nat) : Nat := pwd n sg p 0 8
def c2 (n : Nat) (sg : Nat → Int32) (p : Nat) : Nat := qN n sg (c1 n sg p)
def c3 (n : Nat) (sg : Nat → Int32) (p : Nat) : Nat := c2 n sg p + 1
def c4 (n : Nat) (sg : Nat → Int32) (p : Nat) : Nat := c3 n sg p + 1
def c5 (n : Nat) (sg : Nat → Int32) (p : Nat) : Nat := c4 n sg p + 1
def c6 (n : Nat) (sg : Nat → Int32) (p : Nat) : Nat := pwd n sg (c5 n sg p) 8 3
def c7 (n : Nat) (sg : Nat → Int32) (p : Nat) : Nat := c6 n sg p + 1
def c8 (n : Nat) (sg : Nat → Int32) (p : Nat) : Nat := qN n sg (c7 n sg p)
def cW (n : Nat) (sg : Nat → Int32) (p : Nat) : Nat := fwd n sg p 0 8
def cK (n : Nat) (sg : Nat → Int32) (p : Nat) : Nat := fwd n sg (c5 n sg p) 8 3
/-- whether a command stands there, and where it ends or breaks off -/
def cRes (n : Nat) (sg : Nat → Int32) (p : Nat) : Bool × Nat :=
  if cW n sg p = 8 then (false, c1 n sg p) else
  if cW n sg p = 6 then (true, c1 n sg p) else
  if ¬ dgt n sg (c1 n sg p) = true then (false, c1 n sg p) else
  if ¬ cW n sg p = 1 ∧ ¬ cW n sg p = 2 then (true, c2 n sg p) else
  if ¬ sgn n sg (c2 n sg p) = 32 then (false, c2 n sg p) else
  if ¬ dgt n sg (c3 n sg p) = true then (false, c3 n sg p) else
  if cW n sg p = 2 then (true, c4 n sg p) else
  if ¬ sgn n sg (c4 n sg p) = 46 then (false, c4 n sg p) else
  if cK n sg p = 11 then (false, c6 n sg p) else
  if ¬ sgn n sg (c6 n sg p) = 32 then (false, c6 n sg p) else
  if ¬ dgt n sg (c7 n sg p) = true then (false, c7 n sg p) else (true, c8 n sg p)
section CRES
variable {n : Nat} {sg : Nat → Int32} {p : Nat}
theorem cr_0 (h : cW n sg p = 8) : cRes n sg p = (false, c1 n sg p) := by
  unfold cRes
  rw [if_pos h]
theorem cr_sail (h : cW n sg p = 6) : cRes n sg p = (true, c1 n sg p) := by
  unfold cRes
  rw [if_neg (by omega), if_pos h]
theorem cr_n0 (h8 : ¬ cW n sg p = 8) (h6 : ¬ cW n sg p = 6) (h : ¬ dgt n sg (c1 n sg p) = true) : cRes n sg p = (false, c1 n sg p) := by
  unfold cRes
  rw [if_neg h8, if_neg h6, if_pos h]
theorem cr_n1 (h8 : ¬ cW n sg p = 8) (h6 : ¬ cW n sg p = 6) (h1 : ¬ cW n sg p = 1) (h2 : ¬ cW n sg p = 2) (h : dgt n sg (c1 n sg p) = true) : cRes n sg p = (true, c2 n sg p) := by
  unfold cRes
  rw [if_neg h8, if_neg h6, if_neg (fun z => z h), if_pos ⟨h1, h2⟩]
theorem cr_b0 (hW : cW n sg p = 1 ∨ cW n sg p = 2) (h : dgt n sg (c1 n sg p) = true) (hb : ¬ sgn n sg (c2 n sg p) = 32) : cRes n sg p = (false, c2 n sg p) := by
  unfold cRes
  rw [if_neg (by omega), if_neg (by omega), if_neg (fun z => z h), if_neg (by omega), if_pos hb]
theorem cr_d0 (hW : cW n sg p = 1 ∨ cW n sg p = 2) (h : dgt n sg (c1 n sg p) = true) (hb : sgn n sg (c2 n sg p) = 32) (hd : ¬ dgt n sg (c3 n sg p) = true) : cRes n sg p = (false, c3 n sg p) := by
  unfold cRes
  rw [if_neg (by omega), if_neg (by omega), if_neg (fun z => z h), if_neg (by omega), if_neg (fun z => z hb), if_pos hd]
theorem cr_s1 (hW : cW n sg p = 2) (h : dgt n sg (c1 n sg p) = true) (hb : sgn n sg (c2 n sg p) = 32) (hd : dgt n sg (c3 n sg p) = true) : cRes n sg p = (true, c4 n sg p) := by
  unfold cRes
  rw [if_neg (by omega), if_neg (by omega), if_neg (fun z => z h), if_neg (by omega), if_neg (fun z => z hb), if_neg (fun z => z hd), if_pos hW]
theorem cr_p0 (hW : cW n sg p = 1) (h : dgt n sg (c1 n sg p) = true) (hb : sgn n sg (c2 n sg p) = 32) (hd : dgt n sg (c3 n sg p) = true) (hq : ¬ sgn n sg (c4 n sg p) = 46) : cRes n sg p = (false, c4 n sg p) := by
  unfold cRes
  rw [if_neg (by omega), if_neg (by omega), if_neg (fun z => z h), if_neg (by omega), if_neg (fun z => z hb), if_neg (fun z => z hd), if_neg (by omega), if_pos hq]
theorem cr_k0 (hW : cW n sg p = 1) (h : dgt n sg (c1 n sg p) = true) (hb : sgn n sg (c2 n sg p) = 32) (hd : dgt n sg (c3 n sg p) = true) (hq : sgn n sg (c4 n sg p) = 46) (hk : cK n sg p = 11) : cRes n sg p = (false, c6 n sg p) := by
  unfold cRes
  rw [if_neg (by omega), if_neg (by omega), if_neg (fun z => z h), if_neg (by omega), if_neg (fun z => z hb), if_neg (fun z => z hd), if_neg (by omega), if_neg (fun z => z hq), if_pos hk]
theorem cr_e0 (hW : cW n sg p = 1) (h : dgt n sg (c1 n sg p) = true) (hb : sgn n sg (c2 n sg p) = 32) (hd : dgt n sg (c3 n sg p) = true) (hq : sgn n sg (c4 n sg p) = 46) (hk : ¬ cK n sg p = 11) (he : ¬ sgn n sg (c6 n sg p) = 32) : cRes n sg p = (false, c6 n sg p) := by
  unfold cRes
  rw [if_neg (by omega), if_neg (by omega), if_neg (fun z => z h), if_neg (by omega), if_neg (fun z => z hb), if_neg (fun z => z hd), if_neg (by omega), if_neg (fun z => z hq), if_neg hk, if_pos he]
theorem cr_m0 (hW : cW n sg p = 1) (h : dgt n sg (c1 n sg p) = true) (hb : sgn n sg (c2 n sg p) = 32) (hd : dgt n sg (c3 n sg p) = true) (hq : sgn n sg (c4 n sg p) = 46) (hk : ¬ cK n sg p = 11) (he : sgn n sg (c6 n sg p) = 32) (hm : ¬ dgt n sg (c7 n sg p) = true) : cRes n sg p = (false, c7 n sg p) := by
  unfold cRes
  rw [if_neg (by omega), if_neg (by omega), if_neg (fun z => z h), if_neg (by omega), if_neg (fun z => z hb), if_neg (fun z => z hd), if_neg (by omega), if_neg (fun z => z hq), if_neg hk, if_neg (fun z => z he), if_pos hm]
theorem cr_f1 (hW : cW n sg p = 1) (h : dgt n sg (c1 n sg p) = true) (hb : sgn n sg (c2 n sg p) = 32) (hd : dgt n sg (c3 n sg p) = true) (hq : sgn n sg (c4 n sg p) = 46) (hk : ¬ cK n sg p = 11) (he : sgn n sg (c6 n sg p) = 32) (hm : dgt n sg (c7 n sg p) = true) : cRes n sg p = (true, c8 n sg p) := by
  unfold cRes
  rw [if_neg (by omega), if_neg (by omega), if_neg (fun z => z h), if_neg (by omega), if_neg (fun z => z hb), if_neg (fun z => z hd), if_neg (by omega), if_neg (fun z => z hq), if_neg hk, if_neg (fun z => z he), if_neg (fun z => z hm)]
end CRES
/-- what a command that stands there says -/
def cArg (g : xg_T) (n : Nat) (sg : Nat → Int32) (p : Nat) (vb : Option Nat) (tt : Nat → Int32) : Prop := vb = some (g.2 (30 + cW n sg p)) ∧ cW n sg p < 8 ∧ (¬ cW n sg p = 6 → ¬ cW n sg p = 7 → tt 3 = nI (vN n sg (c1 n sg p))) ∧ (cW n sg p = 7 → tt 6 = nI (vN n sg (c1 n sg p))) ∧ (cW n sg p = 2 → tt 6 = nI (dv n sg (c3 n sg p))) ∧ (cW n sg p = 1 → tt 4 = nI (dv n sg (c3 n sg p)) ∧ tt 6 = nI (vN n sg (c7 n sg p)) ∧ ∃ i : Nat, i < 3 ∧ cK n sg p = 8 + i ∧ tt 5 = nI i)
theorem cr_yes {g : xg_T} {n : Nat} {sg : Nat → Int32} {p c : Nat} {vb : Option Nat} {tt : Nat → Int32} (h : cRes n sg p = (true, c)) (hp : tt 1 = nI c) (ha : cArg g n sg p vb tt) : some (Value.int 1) = some (.int (bi (cRes n sg p).1)) ∧ tt 1 = nI (cRes n sg p).2 ∧ ((cRes n sg p).1 = true → cArg g n sg p vb tt) := by
  rw [h]
  exact ⟨rfl, hp, fun _ => ha⟩
theorem cr_no {g : xg_T} {n : Nat} {sg : Nat → Int32} {p c : Nat} {vb : Option Nat} {tt : Nat → Int32} (h : cRes n sg p = (false, c)) (hp : tt 1 = nI c) : some (Value.int 0) = some (.int (bi (cRes n sg p).1)) ∧ tt 1 = nI (cRes n sg p).2 ∧ ((cRes n sg p).1 = true → cArg g n sg p vb tt) := by
  rw [h]
  exact ⟨rfl, hp, fun z => absurd (show false = true from z) (by decide)⟩
/-- an end of the exact reader: the counts that it wrote -/
def tX (g : xg_T) (w : xw_T) (sz a n : Nat) (tt : Nat → Int32) (vb : Option Nat) (K : Nat → Prop) (R : Option Value → (Nat → Int32) → Prop) : Option Value → xw_T → Nat → Prop := fun r w1 sz1 => sz = sz1 ∧ ∃ tt', w1 = xup w a (.inr (4, txtL a tt' vb)) ∧ tOk n tt' ∧ (∀ i, ¬ K i → tt' i = tt i) ∧ R r tt'

theorem tOk_q {n : Nat} {tt : Nat → Int32} (h : tOk n tt) {q : Nat} (hq : tt 1 = nI q) (hq9 : q < 2000) : q ≤ 60 := by
  obtain ⟨-, -, ⟨m, hm, e⟩, -⟩ := h
  have := (nI_eq (by omega) (by omega)).mp (e.symm.trans hq)
  omega
set_option maxHeartbeats 4000000 in
set_option maxRecDepth 100000 in
theorem e_X2_readSign (l : Launch) (hl : l.stackTraces = false) (g : xg_T) (w : xw_T) (sz a n : Nat) (tt : Nat → Int32) (vb : Option Nat) (sg : Nat → Int32) (hw : w a = some (.inr (4, txtL a tt vb))) (hs : w (a + 1) = some (siE g sg)) (hA : xA g a) (hT : tOk n tt) (hv : vbOk g vb) (q : Nat) (hq : tt 1 = nI q) (hq60 : q ≤ 60) (c : Int32) (hc : ¬ c = -1) : xM l g yX2_readSign cX2_readSign 2 (some .boolean) ({ frames := 1, cells := 0, slots := 0, locals := 21 }) 0 0 [.ref a, .int c] w sz (tX g w sz a n tt vb (fun i => i = 1) (fun r tt' => (sgn n sg q = c ∧ r = some (.int 1) ∧ tt' 1 = nI (q + 1)) ∨ (¬ sgn n sg q = c ∧ r = some (.int 0) ∧ tt' 1 = nI q))) (fun _ _ _ => False) := by
  refine xM.of RX2 hl (by decide +kernel) rfl (Nat.le_of_ble_eq_true rfl) rfl ?_
  intro p e s m args below meth cD C0 hini
  refine x_aload_n 0 1 C0 dX2_readSign_0 rfl rfl rfl ?_
  refine x_aload_n 0 2 C0 dX2_readSign_1 rfl rfl rfl ?_
  refine x_getf (v := .int (tt 1)) 2 5 C0 dX2_readSign_2 rfl hw rfl (by decide) inX2 mF_X2_19 rfl ?_
  refine x_callV 8 C0 (k_X2_signAt l hl g _ _ a _ _ _ _ hw hs hA hT hv (tt 1)) dX2_readSign_5 rfl mC_X2_signAt mM_X2_65 mI_X2_signAt mV_X2_signAt mN_X2 yd_X2_signAt rfl rfl ⟨Nat.le_of_ble_eq_true rfl, Nat.le_of_ble_eq_true rfl⟩ hw rfl rfl rfl rfl (Nat.le_of_ble_eq_true rfl) ⟨Nat.le_of_ble_eq_true rfl, Nat.le_of_ble_eq_true rfl⟩ (fun _ _ _ q => False.elim q) (fun r w1 sz1 hz hP => ?_)
  obtain ⟨rfl, rfl, rfl⟩ := hP
  refine x_st (st1 := [.int (sgn n sg q)]) (by rw [show sgAt n sg (tt 1) = sgn n sg q from congrArg (sgAt n sg) hq]; rfl) ?_
  refine x_iload_n 1 9 C0 dX2_readSign_8 rfl rfl rfl ?_
  refine x_icmp_eq 14 12 C0 dX2_readSign_9 rfl (by decide) (fun c1 => ?_) (fun c1 => ?_)
  · refine x_aload_n 0 15 C0 dX2_readSign_14 rfl rfl rfl ?_
    refine x_dup 16 C0 dX2_readSign_15 rfl rfl ?_
    refine x_getf (v := .int (tt 1)) 2 19 C0 dX2_readSign_16 rfl hw rfl (by decide) inX2 mF_X2_19 rfl ?_
    refine x_iconst (v := 1) 20 C0 dX2_readSign_19 rfl (by decide) ?_
    refine x_iadd 21 C0 dX2_readSign_20 rfl ?_
    refine x_putf 2 24 C0 dX2_readSign_21 rfl hw hA rfl (by decide) inX2 tyX2_ok nmX2 mF_X2_19 rfl rfl rfl rfl (Nat.le_of_ble_eq_true rfl) ?_
    refine x_w (w1 := (xup w a (.inr (4, txtL a (upd tt 1 ((tt 1) + 1)) vb)))) rfl ?_
    have hT2 : tOk n (upd tt 1 ((tt 1) + 1)) := hT.at1 (fun z => hc (c1.symm.trans (by rw [show sgn n sg q = sgAt n sg (tt 1) from congrArg (sgAt n sg) hq.symm]; exact z)))
    refine x_iconst (v := 1) 25 C0 dX2_readSign_24 rfl (by decide) ?_
    exact x_ireturn C0 dX2_readSign_25 rfl rfl (Nat.le_of_ble_eq_true rfl) (Nat.le_of_ble_eq_true rfl) ⟨rfl, _, rfl, hT2, fun i h => if_neg h, Or.inl ⟨c1, rfl, (if_pos rfl).trans (by rw [hq]; exact nI_1 q)⟩⟩
  · refine x_iconst (v := 0) 13 C0 dX2_readSign_12 rfl (by decide) ?_
    exact x_ireturn C0 dX2_readSign_13 rfl rfl (Nat.le_of_ble_eq_true rfl) (Nat.le_of_ble_eq_true rfl) ⟨rfl, _, xup_id hw, hT, fun _ _ => rfl, Or.inr ⟨c1, rfl, hq⟩⟩

set_option maxHeartbeats 4000000 in
set_option maxRecDepth 100000 in
theorem e_X2_readDigit (l : Launch) (hl : l.stackTraces = false) (g : xg_T) (w : xw_T) (sz a n : Nat) (tt : Nat → Int32) (vb : Option Nat) (sg : Nat → Int32) (hw : w a = some (.inr (4, txtL a tt vb))) (hs : w (a + 1) = some (siE g sg)) (hA : xA g a) (hT : tOk n tt) (hv : vbOk g vb) (q : Nat) (hq : tt 1 = nI q) (hq60 : q ≤ 60) : xM l g yX2_readDigit cX2_readDigit 2 (some .int) ({ frames := 1, cells := 0, slots := 0, locals := 21 }) 0 0 [.ref a] w sz (tX g w sz a n tt vb (fun i => i = 1) (fun r tt' => (dgt n sg q ∧ r = some (.int (nI (dv n sg q))) ∧ tt' 1 = nI (q + 1)) ∨ (¬ dgt n sg q ∧ r = some (.int (-1)) ∧ tt' 1 = nI q))) (fun _ _ _ => False) := by
  refine xM.of RX2 hl (by decide +kernel) rfl (Nat.le_of_ble_eq_true rfl) rfl ?_
  intro p e s m args below meth cD C0 hini
  refine x_aload_n 0 1 C0 dX2_readDigit_0 rfl rfl rfl ?_
  refine x_aload_n 0 2 C0 dX2_readDigit_1 rfl rfl rfl ?_
  refine x_getf (v := .int (tt 1)) 2 5 C0 dX2_readDigit_2 rfl hw rfl (by decide) inX2 mF_X2_19 rfl ?_
  refine x_callV 8 C0 (k_X2_signAt l hl g _ _ a _ _ _ _ hw hs hA hT hv (tt 1)) dX2_readDigit_5 rfl mC_X2_signAt mM_X2_65 mI_X2_signAt mV_X2_signAt mN_X2 yd_X2_signAt rfl rfl ⟨Nat.le_of_ble_eq_true rfl, Nat.le_of_ble_eq_true rfl⟩ hw rfl rfl rfl rfl (Nat.le_of_ble_eq_true rfl) ⟨Nat.le_of_ble_eq_true rfl, Nat.le_of_ble_eq_true rfl⟩ (fun _ _ _ q => False.elim q) (fun r w1 sz1 hz hP => ?_)
  obtain ⟨rfl, rfl, rfl⟩ := hP
  refine x_st (st1 := [.int (sgn n sg q)]) (by rw [show sgAt n sg (tt 1) = sgn n sg q from congrArg (sgAt n sg) hq]; rfl) ?_
  refine x_istore_n [(1, .int (sgn n sg q)), (0, .ref a)] 9 C0 dX2_readDigit_8 rfl rfl (by decide) rfl ?_
  refine x_lv (lv1 := [(0, .ref a), (1, .int (sgn n sg q))]) [1, 0] rfl ?_
  refine x_iload_n 1 10 C0 dX2_readDigit_9 rfl rfl rfl ?_
  refine x_bipush (v := 48) 12 C0 dX2_readDigit_10 rfl (by decide) ?_
  refine x_icmp_lt 21 15 C0 dX2_readDigit_12 rfl (by decide) (fun c1 => ?_) (fun c1 => ?_)
  · have c1' := Int32.not_le.mpr c1
    refine x_iconst (v := (-1)) 22 C0 dX2_readDigit_21 rfl (by decide) ?_
    exact x_ireturn C0 dX2_readDigit_22 rfl rfl (Nat.le_of_ble_eq_true rfl) (Nat.le_of_ble_eq_true rfl) ⟨rfl, _, xup_id hw, hT, fun _ _ => rfl, Or.inr ⟨fun z => absurd (dgt_of z).1 (Int32.not_le.mpr c1), rfl, hq⟩⟩
  · have c1' := Int32.not_lt.mp c1
    refine x_iload_n 1 16 C0 dX2_readDigit_15 rfl rfl rfl ?_
    refine x_bipush (v := 57) 18 C0 dX2_readDigit_16 rfl (by decide) ?_
    refine x_icmp_le 23 21 C0 dX2_readDigit_18 rfl (by decide) (fun c2 => ?_) (fun c2 => ?_)
    · have c2' := Int32.not_lt.mpr c2
      refine x_aload_n 0 24 C0 dX2_readDigit_23 rfl rfl rfl ?_
      refine x_dup 25 C0 dX2_readDigit_24 rfl rfl ?_
      refine x_getf (v := .int (tt 1)) 2 28 C0 dX2_readDigit_25 rfl hw rfl (by decide) inX2 mF_X2_19 rfl ?_
      refine x_iconst (v := 1) 29 C0 dX2_readDigit_28 rfl (by decide) ?_
      refine x_iadd 30 C0 dX2_readDigit_29 rfl ?_
      refine x_putf 2 33 C0 dX2_readDigit_30 rfl hw hA rfl (by decide) inX2 tyX2_ok nmX2 mF_X2_19 rfl rfl rfl rfl (Nat.le_of_ble_eq_true rfl) ?_
      refine x_w (w1 := (xup w a (.inr (4, txtL a (upd tt 1 ((tt 1) + 1)) vb)))) rfl ?_
      have hT3 : tOk n (upd tt 1 ((tt 1) + 1)) := hT.at1 (fun z => absurd ((show sgn n sg q = -1 by rw [show sgn n sg q = sgAt n sg (tt 1) from congrArg (sgAt n sg) hq.symm]; exact z) ▸ c1) (by decide))
      refine x_iload_n 1 34 C0 dX2_readDigit_33 rfl rfl rfl ?_
      refine x_bipush (v := 48) 36 C0 dX2_readDigit_34 rfl (by decide) ?_
      refine x_isub 37 C0 dX2_readDigit_36 rfl ?_
      exact x_ireturn C0 dX2_readDigit_37 rfl rfl (Nat.le_of_ble_eq_true rfl) (Nat.le_of_ble_eq_true rfl) ⟨rfl, _, rfl, hT3, fun i h => if_neg h, Or.inl ⟨dgt_mk (Int32.not_lt.mp c1) c2, congrArg (fun z => some (Value.int z)) (dv_ok (dgt_mk (Int32.not_lt.mp c1) c2)).2, (if_pos rfl).trans (by rw [hq]; exact nI_1 q)⟩⟩
    · have c2' := Int32.not_le.mp c2
      refine x_iconst (v := (-1)) 22 C0 dX2_readDigit_21 rfl (by decide) ?_
      exact x_ireturn C0 dX2_readDigit_22 rfl rfl (Nat.le_of_ble_eq_true rfl) (Nat.le_of_ble_eq_true rfl) ⟨rfl, _, xup_id hw, hT, fun _ _ => rfl, Or.inr ⟨fun z => c2 (dgt_of z).2, rfl, hq⟩⟩

set_option maxHeartbeats 4000000 in
set_option maxRecDepth 100000 in
theorem e_X2_readNumber (l : Launch) (hl : l.stackTraces = false) (g : xg_T) (w : xw_T) (sz a n : Nat) (tt : Nat → Int32) (vb : Option Nat) (sg : Nat → Int32) (hw : w a = some (.inr (4, txtL a tt vb))) (hs : w (a + 1) = some (siE g sg)) (hA : xA g a) (hT : tOk n tt) (hv : vbOk g vb) (q : Nat) (hq : tt 1 = nI q) (hq60 : q ≤ 60) : xM l g yX2_readNumber cX2_readNumber 3 (some .int) ({ frames := 2, cells := 0, slots := 0, locals := 42 }) 0 0 [.ref a] w sz (tX g w sz a n tt vb (fun i => i = 1) (fun r tt' => (dgt n sg q ∧ r = some (.int (nI (vN n sg q))) ∧ tt' 1 = nI (qN n sg q)) ∨ (¬ dgt n sg q ∧ r = some (.int (-1)) ∧ tt' 1 = nI q))) (fun _ _ _ => False) := by
  refine xM.of RX2 hl (by decide +kernel) rfl (Nat.le_of_ble_eq_true rfl) rfl ?_
  intro p e s m args below meth cD C0 hini
  refine x_aload_n 0 1 C0 dX2_readNumber_0 rfl rfl rfl ?_
  refine x_callV 4 C0 (e_X2_readDigit l hl g _ _ a _ _ _ _ hw hs hA hT hv q hq hq60) dX2_readNumber_1 rfl mC_X2_readDigit mM_X2_69 mI_X2_readDigit mV_X2_readDigit mN_X2 yd_X2_readDigit rfl rfl ⟨Nat.le_of_ble_eq_true rfl, Nat.le_of_ble_eq_true rfl⟩ hw rfl rfl rfl rfl (Nat.le_of_ble_eq_true rfl) ⟨Nat.le_of_ble_eq_true rfl, Nat.le_of_ble_eq_true rfl⟩ (fun _ _ _ q => False.elim q) (fun r w1 sz1 hz hP => ?_)
  obtain ⟨rfl, t1, rfl, hT1, hk1, hQ1⟩ := hP
  rcases hQ1 with ⟨hc1, rfl, hp1⟩ | ⟨hc1, rfl, hp1⟩
  · have hq61 : q + 1 ≤ 60 := tOk_q hT1 hp1 (by omega)
    refine x_st (st1 := [.int (nI (dv n sg q))]) rfl ?_
    refine x_istore_n [(1, .int (nI (dv n sg q))), (0, .ref a)] 5 C0 dX2_readNumber_4 rfl rfl (by decide) rfl ?_
    refine x_lv (lv1 := [(0, .ref a), (1, .int (nI (dv n sg q)))]) [1, 0] rfl ?_
    refine x_iload_n 1 6 C0 dX2_readNumber_5 rfl rfl rfl ?_
    refine x_if_ge 11 9 C0 dX2_readNumber_6 rfl (by decide) (fun c2 => ?_) (fun c2 => ?_)
    rotate_left
    · exact absurd (nI_pos' (by have := dv_ok (by assumption : dgt n sg q); omega)) c2
    refine x_aload_n 0 12 C0 dX2_readNumber_11 rfl rfl rfl ?_
    refine x_callV 15 C0 (e_X2_readDigit l hl g _ _ a _ _ _ _ (xup_s _ _ _) ((xup_n (by omega)).trans hs) hA hT1 hv (q + 1) hp1 hq61) dX2_readNumber_12 rfl mC_X2_readDigit mM_X2_69 mI_X2_readDigit mV_X2_readDigit mN_X2 yd_X2_readDigit rfl rfl ⟨Nat.le_of_ble_eq_true rfl, Nat.le_of_ble_eq_true rfl⟩ (xup_s _ _ _) rfl rfl rfl rfl (Nat.le_of_ble_eq_true rfl) ⟨Nat.le_of_ble_eq_true rfl, Nat.le_of_ble_eq_true rfl⟩ (fun _ _ _ q => False.elim q) (fun r w1 sz1 hz hP => ?_)
    obtain ⟨rfl, t3, rfl, hT3, hk3, hQ3⟩ := hP
    rcases hQ3 with ⟨hc3, rfl, hp3⟩ | ⟨hc3, rfl, hp3⟩
    · have hq63 : (q + 1) + 1 ≤ 60 := tOk_q hT3 hp3 (by omega)
      refine x_w (xup_2 _ _ _ _) ?_
      refine x_st (st1 := [.int (nI (dv n sg (q + 1)))]) rfl ?_
      refine x_istore_n [(2, .int (nI (dv n sg (q + 1)))), (0, .ref a), (1, .int (nI (dv n sg q)))] 16 C0 dX2_readNumber_15 rfl rfl (by decide) rfl ?_
      refine x_lv (lv1 := [(0, .ref a), (1, .int (nI (dv n sg q))), (2, .int (nI (dv n sg (q + 1))))]) [1, 2, 0] rfl ?_
      refine x_iload_n 2 17 C0 dX2_readNumber_16 rfl rfl rfl ?_
      refine x_if_ge 24 20 C0 dX2_readNumber_17 rfl (by decide) (fun c4 => ?_) (fun c4 => ?_)
      rotate_left
      · exact absurd (nI_pos' (by have := dv_ok (by assumption : dgt n sg (q + 1)); omega)) c4
      refine x_bipush (v := 10) 26 C0 dX2_readNumber_24 rfl (by decide) ?_
      refine x_iload_n 1 27 C0 dX2_readNumber_26 rfl rfl rfl ?_
      refine x_imul 28 C0 dX2_readNumber_27 rfl ?_
      refine x_iload_n 2 29 C0 dX2_readNumber_28 rfl rfl rfl ?_
      refine x_iadd 30 C0 dX2_readNumber_29 rfl ?_
      refine x_st (st1 := [.int (nI (10 * dv n sg q + dv n sg (q + 1)))]) (congrArg (fun z => Value.int z :: _) (by rw [show (10 : Int32) = nI 10 from rfl, nI_mulN, nI_add])) ?_
      exact x_ireturn C0 dX2_readNumber_30 rfl rfl (Nat.le_of_ble_eq_true rfl) (Nat.le_of_ble_eq_true rfl) ⟨rfl, _, rfl, hT3, fun i h => ((hk3 i h).trans (hk1 i h)), Or.inl ⟨hc1, (by unfold vN; rw [if_pos hc3]), (by rw [hp3]; unfold qN; rw [if_pos hc3])⟩⟩
    · have hq63 : (q + 1) ≤ 60 := tOk_q hT3 hp3 (by omega)
      refine x_w (xup_2 _ _ _ _) ?_
      refine x_st (st1 := [.int (-1)]) rfl ?_
      refine x_istore_n [(2, .int (-1)), (0, .ref a), (1, .int (nI (dv n sg q)))] 16 C0 dX2_readNumber_15 rfl rfl (by decide) rfl ?_
      refine x_lv (lv1 := [(0, .ref a), (1, .int (nI (dv n sg q))), (2, .int (-1))]) [1, 2, 0] rfl ?_
      refine x_iload_n 2 17 C0 dX2_readNumber_16 rfl rfl rfl ?_
      refine x_if_ge 24 20 C0 dX2_readNumber_17 rfl (by decide) (fun q => False.elim (by revert q; decide)) (fun _ => ?_)
      refine x_iload_n 1 21 C0 dX2_readNumber_20 rfl rfl rfl ?_
      refine x_goto 30 C0 dX2_readNumber_21 (by decide) ?_
      exact x_ireturn C0 dX2_readNumber_30 rfl rfl (Nat.le_of_ble_eq_true rfl) (Nat.le_of_ble_eq_true rfl) ⟨rfl, _, rfl, hT3, fun i h => ((hk3 i h).trans (hk1 i h)), Or.inl ⟨hc1, (by unfold vN; rw [if_neg hc3]), (by rw [hp3]; unfold qN; rw [if_neg hc3])⟩⟩
  · have hq61 : q ≤ 60 := tOk_q hT1 hp1 (by omega)
    refine x_st (st1 := [.int (-1)]) rfl ?_
    refine x_istore_n [(1, .int (-1)), (0, .ref a)] 5 C0 dX2_readNumber_4 rfl rfl (by decide) rfl ?_
    refine x_lv (lv1 := [(0, .ref a), (1, .int (-1))]) [1, 0] rfl ?_
    refine x_iload_n 1 6 C0 dX2_readNumber_5 rfl rfl rfl ?_
    refine x_if_ge 11 9 C0 dX2_readNumber_6 rfl (by decide) (fun q => False.elim (by revert q; decide)) (fun _ => ?_)
    refine x_iconst (v := (-1)) 10 C0 dX2_readNumber_9 rfl (by decide) ?_
    exact x_ireturn C0 dX2_readNumber_10 rfl rfl (Nat.le_of_ble_eq_true rfl) (Nat.le_of_ble_eq_true rfl) ⟨rfl, _, rfl, hT1, fun i h => (hk1 i h), Or.inr ⟨hc1, rfl, hp1⟩⟩

set_option maxHeartbeats 4000000 in
set_option maxRecDepth 100000 in
theorem e_X2_readChest (l : Launch) (hl : l.stackTraces = false) (g : xg_T) (w : xw_T) (sz a n : Nat) (tt : Nat → Int32) (vb : Option Nat) (sg : Nat → Int32) (hw : w a = some (.inr (4, txtL a tt vb))) (hs : w (a + 1) = some (siE g sg)) (hA : xA g a) (hT : tOk n tt) (hv : vbOk g vb) (q : Nat) (hq : tt 1 = nI q) (hq60 : q ≤ 60) : xM l g yX2_readChest cX2_readChest 1 (some .boolean) ({ frames := 3, cells := 0, slots := 0, locals := 64 }) 0 0 [.ref a] w sz (tX g w sz a n tt vb (fun i => i = 1 ∨ i = 3) (fun r tt' => (dgt n sg q ∧ r = some (.int 1) ∧ tt' 1 = nI (qN n sg q) ∧ tt' 3 = nI (vN n sg q)) ∨ (¬ dgt n sg q ∧ r = some (.int 0) ∧ tt' 1 = nI q))) (fun _ _ _ => False) := by
  refine xM.of RX2 hl (by decide +kernel) rfl (Nat.le_of_ble_eq_true rfl) rfl ?_
  intro p e s m args below meth cD C0 hini
  refine x_aload_n 0 1 C0 dX2_readChest_0 rfl rfl rfl ?_
  refine x_aload_n 0 2 C0 dX2_readChest_1 rfl rfl rfl ?_
  refine x_callV 5 C0 (e_X2_readNumber l hl g _ _ a _ _ _ _ hw hs hA hT hv q hq hq60) dX2_readChest_2 rfl mC_X2_readNumber mM_X2_78 mI_X2_readNumber mV_X2_readNumber mN_X2 yd_X2_readNumber rfl rfl ⟨Nat.le_of_ble_eq_true rfl, Nat.le_of_ble_eq_true rfl⟩ hw rfl rfl rfl rfl (Nat.le_of_ble_eq_true rfl) ⟨Nat.le_of_ble_eq_true rfl, Nat.le_of_ble_eq_true rfl⟩ (fun _ _ _ q => False.elim q) (fun r w1 sz1 hz hP => ?_)
  obtain ⟨rfl, t1, rfl, hT1, hk1, hQ1⟩ := hP
  rcases hQ1 with ⟨hc1, rfl, hp1⟩ | ⟨hc1, rfl, hp1⟩
  · have hq61 : qN n sg q ≤ 60 := tOk_q hT1 hp1 (by have := qN_le n sg (q); omega)
    refine x_st (st1 := [.int (nI (vN n sg q)), .ref a]) rfl ?_
    refine x_putf 5 8 C0 dX2_readChest_5 rfl (xup_s _ _ _) hA rfl (by decide) inX2 tyX2_ok nmX2 mF_X2_81 rfl rfl rfl rfl (Nat.le_of_ble_eq_true rfl) ?_
    refine x_w (w1 := (xup w a (.inr (4, txtL a (upd t1 3 (nI (vN n sg q))) vb)))) (xup_2 _ _ _ _) ?_
    have hT2 : tOk n (upd t1 3 (nI (vN n sg q))) := hT1.up (by decide)
    refine x_aload_n 0 9 C0 dX2_readChest_8 rfl rfl rfl ?_
    refine x_getf (v := .int (nI (vN n sg q))) 5 12 C0 dX2_readChest_9 rfl (xup_s _ _ _) rfl (by decide) inX2 mF_X2_81 rfl ?_
    refine x_if_lt 19 15 C0 dX2_readChest_12 rfl (by decide) (fun c3 => ?_) (fun c3 => ?_)
    · exact absurd c3 (Int32.not_lt.mpr (nI_pos' (by have := vN_lt (by assumption : dgt n sg q); omega)))
    refine x_iconst (v := 1) 16 C0 dX2_readChest_15 rfl (by decide) ?_
    refine x_goto 20 C0 dX2_readChest_16 (by decide) ?_
    exact x_ireturn C0 dX2_readChest_20 rfl rfl (Nat.le_of_ble_eq_true rfl) (Nat.le_of_ble_eq_true rfl) ⟨rfl, _, rfl, hT2, fun i h => (if_neg (fun e => h (Or.inr e))).trans (hk1 i (fun e => h (Or.inl e))), Or.inl ⟨hc1, rfl, (if_neg (by decide)).trans hp1, if_pos rfl⟩⟩
  · have hq61 : q ≤ 60 := tOk_q hT1 hp1 (by omega)
    refine x_st (st1 := [.int (-1), .ref a]) rfl ?_
    refine x_putf 5 8 C0 dX2_readChest_5 rfl (xup_s _ _ _) hA rfl (by decide) inX2 tyX2_ok nmX2 mF_X2_81 rfl rfl rfl rfl (Nat.le_of_ble_eq_true rfl) ?_
    refine x_w (w1 := (xup w a (.inr (4, txtL a (upd t1 3 (-1)) vb)))) (xup_2 _ _ _ _) ?_
    have hT4 : tOk n (upd t1 3 (-1)) := hT1.up (by decide)
    refine x_aload_n 0 9 C0 dX2_readChest_8 rfl rfl rfl ?_
    refine x_getf (v := .int (-1)) 5 12 C0 dX2_readChest_9 rfl (xup_s _ _ _) rfl (by decide) inX2 mF_X2_81 rfl ?_
    refine x_if_lt 19 15 C0 dX2_readChest_12 rfl (by decide) (fun _ => ?_) (fun q => False.elim (by revert q; decide))
    refine x_iconst (v := 0) 20 C0 dX2_readChest_19 rfl (by decide) ?_
    exact x_ireturn C0 dX2_readChest_20 rfl rfl (Nat.le_of_ble_eq_true rfl) (Nat.le_of_ble_eq_true rfl) ⟨rfl, _, rfl, hT4, fun i h => (if_neg (fun e => h (Or.inr e))).trans (hk1 i (fun e => h (Or.inl e))), Or.inr ⟨hc1, rfl, (if_neg (by decide)).trans hp1⟩⟩

set_option maxHeartbeats 4000000 in
set_option maxRecDepth 100000 in
theorem e_X2_readManyAsNumber (l : Launch) (hl : l.stackTraces = false) (g : xg_T) (w : xw_T) (sz a n : Nat) (tt : Nat → Int32) (vb : Option Nat) (sg : Nat → Int32) (hw : w a = some (.inr (4, txtL a tt vb))) (hs : w (a + 1) = some (siE g sg)) (hA : xA g a) (hT : tOk n tt) (hv : vbOk g vb) (q : Nat) (hq : tt 1 = nI q) (hq60 : q ≤ 60) : xM l g yX2_readManyAsNumber cX2_readManyAsNumber 1 (some .boolean) ({ frames := 3, cells := 0, slots := 0, locals := 64 }) 0 0 [.ref a] w sz (tX g w sz a n tt vb (fun i => i = 1 ∨ i = 6) (fun r tt' => (dgt n sg q ∧ r = some (.int 1) ∧ tt' 1 = nI (qN n sg q) ∧ tt' 6 = nI (vN n sg q)) ∨ (¬ dgt n sg q ∧ r = some (.int 0) ∧ tt' 1 = nI q))) (fun _ _ _ => False) := by
  refine xM.of RX2 hl (by decide +kernel) rfl (Nat.le_of_ble_eq_true rfl) rfl ?_
  intro p e s m args below meth cD C0 hini
  refine x_aload_n 0 1 C0 dX2_readManyAsNumber_0 rfl rfl rfl ?_
  refine x_aload_n 0 2 C0 dX2_readManyAsNumber_1 rfl rfl rfl ?_
  refine x_callV 5 C0 (e_X2_readNumber l hl g _ _ a _ _ _ _ hw hs hA hT hv q hq hq60) dX2_readManyAsNumber_2 rfl mC_X2_readNumber mM_X2_78 mI_X2_readNumber mV_X2_readNumber mN_X2 yd_X2_readNumber rfl rfl ⟨Nat.le_of_ble_eq_true rfl, Nat.le_of_ble_eq_true rfl⟩ hw rfl rfl rfl rfl (Nat.le_of_ble_eq_true rfl) ⟨Nat.le_of_ble_eq_true rfl, Nat.le_of_ble_eq_true rfl⟩ (fun _ _ _ q => False.elim q) (fun r w1 sz1 hz hP => ?_)
  obtain ⟨rfl, t1, rfl, hT1, hk1, hQ1⟩ := hP
  rcases hQ1 with ⟨hc1, rfl, hp1⟩ | ⟨hc1, rfl, hp1⟩
  · have hq61 : qN n sg q ≤ 60 := tOk_q hT1 hp1 (by have := qN_le n sg (q); omega)
    refine x_st (st1 := [.int (nI (vN n sg q)), .ref a]) rfl ?_
    refine x_putf 8 8 C0 dX2_readManyAsNumber_5 rfl (xup_s _ _ _) hA rfl (by decide) inX2 tyX2_ok nmX2 mF_X2_84 rfl rfl rfl rfl (Nat.le_of_ble_eq_true rfl) ?_
    refine x_w (w1 := (xup w a (.inr (4, txtL a (upd t1 6 (nI (vN n sg q))) vb)))) (xup_2 _ _ _ _) ?_
    have hT2 : tOk n (upd t1 6 (nI (vN n sg q))) := hT1.up (by decide)
    refine x_aload_n 0 9 C0 dX2_readManyAsNumber_8 rfl rfl rfl ?_
    refine x_getf (v := .int (nI (vN n sg q))) 8 12 C0 dX2_readManyAsNumber_9 rfl (xup_s _ _ _) rfl (by decide) inX2 mF_X2_84 rfl ?_
    refine x_if_lt 19 15 C0 dX2_readManyAsNumber_12 rfl (by decide) (fun c3 => ?_) (fun c3 => ?_)
    · exact absurd c3 (Int32.not_lt.mpr (nI_pos' (by have := vN_lt (by assumption : dgt n sg q); omega)))
    refine x_iconst (v := 1) 16 C0 dX2_readManyAsNumber_15 rfl (by decide) ?_
    refine x_goto 20 C0 dX2_readManyAsNumber_16 (by decide) ?_
    exact x_ireturn C0 dX2_readManyAsNumber_20 rfl rfl (Nat.le_of_ble_eq_true rfl) (Nat.le_of_ble_eq_true rfl) ⟨rfl, _, rfl, hT2, fun i h => (if_neg (fun e => h (Or.inr e))).trans (hk1 i (fun e => h (Or.inl e))), Or.inl ⟨hc1, rfl, (if_neg (by decide)).trans hp1, if_pos rfl⟩⟩
  · have hq61 : q ≤ 60 := tOk_q hT1 hp1 (by omega)
    refine x_st (st1 := [.int (-1), .ref a]) rfl ?_
    refine x_putf 8 8 C0 dX2_readManyAsNumber_5 rfl (xup_s _ _ _) hA rfl (by decide) inX2 tyX2_ok nmX2 mF_X2_84 rfl rfl rfl rfl (Nat.le_of_ble_eq_true rfl) ?_
    refine x_w (w1 := (xup w a (.inr (4, txtL a (upd t1 6 (-1)) vb)))) (xup_2 _ _ _ _) ?_
    have hT4 : tOk n (upd t1 6 (-1)) := hT1.up (by decide)
    refine x_aload_n 0 9 C0 dX2_readManyAsNumber_8 rfl rfl rfl ?_
    refine x_getf (v := .int (-1)) 8 12 C0 dX2_readManyAsNumber_9 rfl (xup_s _ _ _) rfl (by decide) inX2 mF_X2_84 rfl ?_
    refine x_if_lt 19 15 C0 dX2_readManyAsNumber_12 rfl (by decide) (fun _ => ?_) (fun q => False.elim (by revert q; decide))
    refine x_iconst (v := 0) 20 C0 dX2_readManyAsNumber_19 rfl (by decide) ?_
    exact x_ireturn C0 dX2_readManyAsNumber_20 rfl rfl (Nat.le_of_ble_eq_true rfl) (Nat.le_of_ble_eq_true rfl) ⟨rfl, _, rfl, hT4, fun i h => (if_neg (fun e => h (Or.inr e))).trans (hk1 i (fun e => h (Or.inl e))), Or.inr ⟨hc1, rfl, (if_neg (by decide)).trans hp1⟩⟩

set_option maxHeartbeats 4000000 in
set_option maxRecDepth 100000 in
theorem e_X2_readManyAsDigit (l : Launch) (hl : l.stackTraces = false) (g : xg_T) (w : xw_T) (sz a n : Nat) (tt : Nat → Int32) (vb : Option Nat) (sg : Nat → Int32) (hw : w a = some (.inr (4, txtL a tt vb))) (hs : w (a + 1) = some (siE g sg)) (hA : xA g a) (hT : tOk n tt) (hv : vbOk g vb) (q : Nat) (hq : tt 1 = nI q) (hq60 : q ≤ 60) : xM l g yX2_readManyAsDigit cX2_readManyAsDigit 1 (some .boolean) ({ frames := 2, cells := 0, slots := 0, locals := 42 }) 0 0 [.ref a] w sz (tX g w sz a n tt vb (fun i => i = 1 ∨ i = 6) (fun r tt' => (dgt n sg q ∧ r = some (.int 1) ∧ tt' 1 = nI (q + 1) ∧ tt' 6 = nI (dv n sg q)) ∨ (¬ dgt n sg q ∧ r = some (.int 0) ∧ tt' 1 = nI q))) (fun _ _ _ => False) := by
  refine xM.of RX2 hl (by decide +kernel) rfl (Nat.le_of_ble_eq_true rfl) rfl ?_
  intro p e s m args below meth cD C0 hini
  refine x_aload_n 0 1 C0 dX2_readManyAsDigit_0 rfl rfl rfl ?_
  refine x_aload_n 0 2 C0 dX2_readManyAsDigit_1 rfl rfl rfl ?_
  refine x_callV 5 C0 (e_X2_readDigit l hl g _ _ a _ _ _ _ hw hs hA hT hv q hq hq60) dX2_readManyAsDigit_2 rfl mC_X2_readDigit mM_X2_69 mI_X2_readDigit mV_X2_readDigit mN_X2 yd_X2_readDigit rfl rfl ⟨Nat.le_of_ble_eq_true rfl, Nat.le_of_ble_eq_true rfl⟩ hw rfl rfl rfl rfl (Nat.le_of_ble_eq_true rfl) ⟨Nat.le_of_ble_eq_true rfl, Nat.le_of_ble_eq_true rfl⟩ (fun _ _ _ q => False.elim q) (fun r w1 sz1 hz hP => ?_)
  obtain ⟨rfl, t1, rfl, hT1, hk1, hQ1⟩ := hP
  rcases hQ1 with ⟨hc1, rfl, hp1⟩ | ⟨hc1, rfl, hp1⟩
  · have hq61 : q + 1 ≤ 60 := tOk_q hT1 hp1 (by omega)
    refine x_st (st1 := [.int (nI (dv n sg q)), .ref a]) rfl ?_
    refine x_putf 8 8 C0 dX2_readManyAsDigit_5 rfl (xup_s _ _ _) hA rfl (by decide) inX2 tyX2_ok nmX2 mF_X2_84 rfl rfl rfl rfl (Nat.le_of_ble_eq_true rfl) ?_
    refine x_w (w1 := (xup w a (.inr (4, txtL a (upd t1 6 (nI (dv n sg q))) vb)))) (xup_2 _ _ _ _) ?_
    have hT2 : tOk n (upd t1 6 (nI (dv n sg q))) := hT1.up (by decide)
    refine x_aload_n 0 9 C0 dX2_readManyAsDigit_8 rfl rfl rfl ?_
    refine x_getf (v := .int (nI (dv n sg q))) 8 12 C0 dX2_readManyAsDigit_9 rfl (xup_s _ _ _) rfl (by decide) inX2 mF_X2_84 rfl ?_
    refine x_if_lt 19 15 C0 dX2_readManyAsDigit_12 rfl (by decide) (fun c3 => ?_) (fun c3 => ?_)
    · exact absurd c3 (Int32.not_lt.mpr (nI_pos' (by have := dv_ok (by assumption : dgt n sg q); omega)))
    refine x_iconst (v := 1) 16 C0 dX2_readManyAsDigit_15 rfl (by decide) ?_
    refine x_goto 20 C0 dX2_readManyAsDigit_16 (by decide) ?_
    exact x_ireturn C0 dX2_readManyAsDigit_20 rfl rfl (Nat.le_of_ble_eq_true rfl) (Nat.le_of_ble_eq_true rfl) ⟨rfl, _, rfl, hT2, fun i h => (if_neg (fun e => h (Or.inr e))).trans (hk1 i (fun e => h (Or.inl e))), Or.inl ⟨hc1, rfl, (if_neg (by decide)).trans hp1, if_pos rfl⟩⟩
  · have hq61 : q ≤ 60 := tOk_q hT1 hp1 (by omega)
    refine x_st (st1 := [.int (-1), .ref a]) rfl ?_
    refine x_putf 8 8 C0 dX2_readManyAsDigit_5 rfl (xup_s _ _ _) hA rfl (by decide) inX2 tyX2_ok nmX2 mF_X2_84 rfl rfl rfl rfl (Nat.le_of_ble_eq_true rfl) ?_
    refine x_w (w1 := (xup w a (.inr (4, txtL a (upd t1 6 (-1)) vb)))) (xup_2 _ _ _ _) ?_
    have hT4 : tOk n (upd t1 6 (-1)) := hT1.up (by decide)
    refine x_aload_n 0 9 C0 dX2_readManyAsDigit_8 rfl rfl rfl ?_
    refine x_getf (v := .int (-1)) 8 12 C0 dX2_readManyAsDigit_9 rfl (xup_s _ _ _) rfl (by decide) inX2 mF_X2_84 rfl ?_
    refine x_if_lt 19 15 C0 dX2_readManyAsDigit_12 rfl (by decide) (fun _ => ?_) (fun q => False.elim (by revert q; decide))
    refine x_iconst (v := 0) 20 C0 dX2_readManyAsDigit_19 rfl (by decide) ?_
    exact x_ireturn C0 dX2_readManyAsDigit_20 rfl rfl (Nat.le_of_ble_eq_true rfl) (Nat.le_of_ble_eq_true rfl) ⟨rfl, _, rfl, hT4, fun i h => (if_neg (fun e => h (Or.inr e))).trans (hk1 i (fun e => h (Or.inl e))), Or.inr ⟨hc1, rfl, (if_neg (by decide)).trans hp1⟩⟩

set_option maxHeartbeats 4000000 in
set_option maxRecDepth 100000 in
theorem e_X2_readWord (l : Launch) (hl : l.stackTraces = false) (g : xg_T) (w : xw_T) (sz a n : Nat) (tt : Nat → Int32) (vb : Option Nat) (sg : Nat → Int32) (hw : w a = some (.inr (4, txtL a tt vb))) (hs : w (a + 1) = some (siE g sg)) (hA : xA g a) (hT : tOk n tt) (hv : vbOk g vb) (q : Nat) (hq : tt 1 = nI q) (hq60 : q ≤ 60) (f : Nat) (hf : tt 2 = nI f) (hf60 : f ≤ 60) (i0 w9 : Nat) (hi0 : i0 < 13) (hW : xlen.getD i0 0 = wl w9 ∧ ∀ j, j < wl w9 → (xbyt.getD i0 []).getD j 0 = wc w9 j) : xM l g yX2_readWord cX2_readWord 3 (some .boolean) ({ frames := 4, cells := 0, slots := 0, locals := 85 }) 0 0 [.ref a, .ref (g.2 (100 + i0))] w sz (tX g w sz a n tt vb (fun i => i = 1 ∨ i = 2) (fun r tt' => (alw n sg q w9 = wl w9 ∧ r = some (.int 1) ∧ tt' 1 = nI (q + wl w9) ∧ tt' 2 = nI f) ∨ (alw n sg q w9 < wl w9 ∧ r = some (.int 0) ∧ tt' 1 = nI q ∧ tt' 2 = nI (if f < q + alw n sg q w9 then q + alw n sg q w9 else f)))) (fun _ _ _ => False) := by
  have hn60 := hT.2.1
  have hL := xlen7 i0 hi0
  refine xM.of RX2 hl (by decide +kernel) rfl (Nat.le_of_ble_eq_true rfl) rfl ?_
  intro p e s m args below meth cD C0 hini
  refine x_iconst (v := 0) 1 C0 dX2_readWord_0 rfl (by decide) ?_
  refine x_istore_n [(2, .int 0), (0, .ref a), (1, .ref (g.2 (100 + i0)))] 2 C0 dX2_readWord_1 rfl rfl (by decide) rfl ?_
  refine x_lv (lv1 := [(0, .ref a), (1, .ref (g.2 (100 + i0))), (2, .int 0)]) [1, 2, 0] rfl ?_
  have loop2 : ∀ (N i : Nat), i ≤ xlen.getD i0 0 → xlen.getD i0 0 - i < N → (i = 0 ∨ q + i ≤ n) → al (mt n sg q w9) i = i → xV p l e ({ frames := 4, cells := 0, slots := 0, locals := 85 }) s m args below meth cD (xQ g below (tX g w sz a n tt vb (fun i => i = 1 ∨ i = 2) (fun r tt' => (alw n sg q w9 = wl w9 ∧ r = some (.int 1) ∧ tt' 1 = nI (q + wl w9) ∧ tt' 2 = nI f) ∨ (alw n sg q w9 < wl w9 ∧ r = some (.int 0) ∧ tt' 1 = nI q ∧ tt' 2 = nI (if f < q + alw n sg q w9 then q + alw n sg q w9 else f)))) (fun _ _ _ => False) args s 0 0) g 3 w sz (0) (0) 2 [(0, .ref a), (1, .ref (g.2 (100 + i0))), (2, .int (nI i))] [] := by
    intro N
    induction N with
    | zero => intro i h1 h2; omega
    | succ N ih =>
      intro i hi hN hI hal
      have h60 : q + i ≤ 60 := by omega
      refine x_iload_n 2 3 C0 dX2_readWord_2 rfl rfl rfl ?_
      refine x_aload_n 1 4 C0 dX2_readWord_3 rfl rfl rfl ?_
      refine x_callR 7 (C := RJ0) C0 (k_J0_length_8abf5 l hl g _ _ _ _ _ _ (xStrV.const g w i0 hi0)) dX2_readWord_4 rfl mC_J0_length_8abf5 mM_X2_112 mI_J0_length_8abf5 mV_J0_length_8abf5 mN_J0 yd_J0_length_8abf5 rfl rfl ⟨Nat.le_of_ble_eq_true rfl, Nat.le_of_ble_eq_true rfl⟩ (xRecv.str C0 (xStrV.const g w i0 hi0)) rfl rfl (Nat.le_of_ble_eq_true rfl) ⟨Nat.le_of_ble_eq_true rfl, Nat.le_of_ble_eq_true rfl⟩ (fun _ _ _ q => False.elim q) (fun r w1 sz1 hz hP => ?_)
      obtain ⟨rfl, rfl, rfl⟩ := hP
      refine x_st (st1 := [.int (nI (xlen.getD i0 0)), .int (nI i)]) rfl ?_
      refine x_icmp_ge 34 10 C0 dX2_readWord_7 rfl (by decide) (fun c1 => ?_) (fun c1 => ?_)
      · have hE := ix_eq (xlen.getD i0 0) rfl (by omega) hi c1
        refine x_iload_n 2 35 C0 dX2_readWord_34 rfl rfl rfl ?_
        refine x_aload_n 1 36 C0 dX2_readWord_35 rfl rfl rfl ?_
        refine x_callR 39 (C := RJ0) C0 (k_J0_length_8abf5 l hl g _ _ _ _ _ _ (xStrV.const g w i0 hi0)) dX2_readWord_36 rfl mC_J0_length_8abf5 mM_X2_112 mI_J0_length_8abf5 mV_J0_length_8abf5 mN_J0 yd_J0_length_8abf5 rfl rfl ⟨Nat.le_of_ble_eq_true rfl, Nat.le_of_ble_eq_true rfl⟩ (xRecv.str C0 (xStrV.const g w i0 hi0)) rfl rfl (Nat.le_of_ble_eq_true rfl) ⟨Nat.le_of_ble_eq_true rfl, Nat.le_of_ble_eq_true rfl⟩ (fun _ _ _ q => False.elim q) (fun r w1 sz1 hz hP => ?_)
        obtain ⟨rfl, rfl, rfl⟩ := hP
        refine x_st (st1 := [.int (nI (xlen.getD i0 0)), .int (nI i)]) rfl ?_
        refine x_icmp_ne 54 42 C0 dX2_readWord_39 rfl (by decide) (fun c2 => ?_) (fun c2 => ?_)
        · exact absurd (congrArg nI hE) c2
        refine x_aload_n 0 43 C0 dX2_readWord_42 rfl rfl rfl ?_
        refine x_dup 44 C0 dX2_readWord_43 rfl rfl ?_
        refine x_getf (v := .int (tt 1)) 2 47 C0 dX2_readWord_44 rfl hw rfl (by decide) inX2 mF_X2_19 rfl ?_
        refine x_iload_n 2 48 C0 dX2_readWord_47 rfl rfl rfl ?_
        refine x_iadd 49 C0 dX2_readWord_48 rfl ?_
        refine x_st (st1 := [.int (nI (q + i)), .ref a]) (congrArg (fun z => Value.int z :: _) (by rw [hq]; exact nI_add q i)) ?_
        refine x_putf 2 52 C0 dX2_readWord_49 rfl hw hA rfl (by decide) inX2 tyX2_ok nmX2 mF_X2_19 rfl rfl rfl rfl (Nat.le_of_ble_eq_true rfl) ?_
        refine x_w (w1 := (xup w a (.inr (4, txtL a (upd tt 1 (nI (q + i))) vb)))) rfl ?_
        have hT3 : tOk n (upd tt 1 (nI (q + i))) := hT.at h60 rfl
        refine x_iconst (v := 1) 53 C0 dX2_readWord_52 rfl (by decide) ?_
        exact x_ireturn C0 dX2_readWord_53 rfl rfl (Nat.le_of_ble_eq_true rfl) (Nat.le_of_ble_eq_true rfl) ⟨rfl, _, rfl, hT3, fun i h => if_neg (fun e => h (Or.inl e)), Or.inl ⟨by unfold alw; rw [← hW.1, ← hE]; exact hal, rfl, by rw [← hW.1, ← hE]; exact if_pos rfl, (if_neg (by decide)).trans hf⟩⟩
      · have hi2 := ix_lt (xlen.getD i0 0) rfl (by omega) hi c1
        refine x_aload_n 0 11 C0 dX2_readWord_10 rfl rfl rfl ?_
        refine x_aload_n 0 12 C0 dX2_readWord_11 rfl rfl rfl ?_
        refine x_getf (v := .int (tt 1)) 2 15 C0 dX2_readWord_12 rfl hw rfl (by decide) inX2 mF_X2_19 rfl ?_
        refine x_iload_n 2 16 C0 dX2_readWord_15 rfl rfl rfl ?_
        refine x_iadd 17 C0 dX2_readWord_16 rfl ?_
        refine x_st (st1 := [.int (nI (q + i)), .ref a]) (congrArg (fun z => Value.int z :: _) (by rw [hq]; exact nI_add q i)) ?_
        refine x_callV 20 C0 (k_X2_signAt l hl g _ _ a _ _ _ _ hw hs hA hT hv (nI (q + i))) dX2_readWord_17 rfl mC_X2_signAt mM_X2_65 mI_X2_signAt mV_X2_signAt mN_X2 yd_X2_signAt rfl rfl ⟨Nat.le_of_ble_eq_true rfl, Nat.le_of_ble_eq_true rfl⟩ hw rfl rfl rfl rfl (Nat.le_of_ble_eq_true rfl) ⟨Nat.le_of_ble_eq_true rfl, Nat.le_of_ble_eq_true rfl⟩ (fun _ _ _ q => False.elim q) (fun r w1 sz1 hz hP => ?_)
        obtain ⟨rfl, rfl, rfl⟩ := hP
        refine x_st (st1 := [.int (sgAt n sg (nI (q + i)))]) rfl ?_
        refine x_aload_n 1 21 C0 dX2_readWord_20 rfl rfl rfl ?_
        refine x_iload_n 2 22 C0 dX2_readWord_21 rfl rfl rfl ?_
        refine x_callR 25 (C := RJ0) C0 (k_J0_charAt_5068e l hl g _ _ _ _ _ _ (xStrV.const g w i0 hi0) i hi2 (by omega) (xb_ch i0 hi0 i (by omega)).1) dX2_readWord_22 rfl mC_J0_charAt_5068e mM_X2_116 mI_J0_charAt_5068e mV_J0_charAt_5068e mN_J0 yd_J0_charAt_5068e rfl rfl ⟨Nat.le_of_ble_eq_true rfl, Nat.le_of_ble_eq_true rfl⟩ (xRecv.str C0 (xStrV.const g w i0 hi0)) rfl rfl (Nat.le_of_ble_eq_true rfl) ⟨Nat.le_of_ble_eq_true rfl, Nat.le_of_ble_eq_true rfl⟩ (fun _ _ _ q => False.elim q) (fun r w1 sz1 hz hP => ?_)
        obtain ⟨rfl, rfl, rfl⟩ := hP
        refine x_st (st1 := [.int ((xbyt.getD i0 []).getD i 0), .int (sgAt n sg (nI (q + i)))]) rfl ?_
        refine x_icmp_ne 34 28 C0 dX2_readWord_25 rfl (by decide) (fun c4 => ?_) (fun c4 => ?_)
        · refine x_iload_n 2 35 C0 dX2_readWord_34 rfl rfl rfl ?_
          refine x_aload_n 1 36 C0 dX2_readWord_35 rfl rfl rfl ?_
          refine x_callR 39 (C := RJ0) C0 (k_J0_length_8abf5 l hl g _ _ _ _ _ _ (xStrV.const g w i0 hi0)) dX2_readWord_36 rfl mC_J0_length_8abf5 mM_X2_112 mI_J0_length_8abf5 mV_J0_length_8abf5 mN_J0 yd_J0_length_8abf5 rfl rfl ⟨Nat.le_of_ble_eq_true rfl, Nat.le_of_ble_eq_true rfl⟩ (xRecv.str C0 (xStrV.const g w i0 hi0)) rfl rfl (Nat.le_of_ble_eq_true rfl) ⟨Nat.le_of_ble_eq_true rfl, Nat.le_of_ble_eq_true rfl⟩ (fun _ _ _ q => False.elim q) (fun r w1 sz1 hz hP => ?_)
          obtain ⟨rfl, rfl, rfl⟩ := hP
          refine x_st (st1 := [.int (nI (xlen.getD i0 0)), .int (nI i)]) rfl ?_
          refine x_icmp_ne 54 42 C0 dX2_readWord_39 rfl (by decide) (fun c5 => ?_) (fun c5 => ?_)
          rotate_left
          · exact absurd ((nI_eq (by omega) (by omega)).mp c5) (by omega)
          refine x_aload_n 0 55 C0 dX2_readWord_54 rfl rfl rfl ?_
          refine x_aload_n 0 56 C0 dX2_readWord_55 rfl rfl rfl ?_
          refine x_getf (v := .int (tt 2)) 3 59 C0 dX2_readWord_56 rfl hw rfl (by decide) inX2 mF_X2_87 rfl ?_
          refine x_aload_n 0 60 C0 dX2_readWord_59 rfl rfl rfl ?_
          refine x_getf (v := .int (tt 1)) 2 63 C0 dX2_readWord_60 rfl hw rfl (by decide) inX2 mF_X2_19 rfl ?_
          refine x_iload_n 2 64 C0 dX2_readWord_63 rfl rfl rfl ?_
          refine x_iadd 65 C0 dX2_readWord_64 rfl ?_
          refine x_st (st1 := [.int (nI (q + i)), .int (tt 2), .ref a]) (congrArg (fun z => Value.int z :: _) (by rw [hq]; exact nI_add q i)) ?_
          refine x_mmax 68 C0 dX2_readWord_65 rfl mM_X2_120 mS_Math_max mN_J9 mC_Math_max (Nat.le_of_ble_eq_true rfl) (Nat.le_of_ble_eq_true rfl) (Nat.le_of_ble_eq_true rfl) (Nat.le_of_ble_eq_true rfl) ?_
          refine x_putf 3 71 C0 dX2_readWord_68 rfl hw hA rfl (by decide) inX2 tyX2_ok nmX2 mF_X2_87 rfl rfl rfl rfl (Nat.le_of_ble_eq_true rfl) ?_
          refine x_w (w1 := (xup w a (.inr (4, txtL a (upd tt 2 (if tt 2 < (nI (q + i)) then nI (q + i) else tt 2)) vb)))) rfl ?_
          have hT6 : tOk n (upd tt 2 (if tt 2 < (nI (q + i)) then nI (q + i) else tt 2)) := hT.fa (m := if f < q + i then q + i else f) (by split <;> omega) (by rw [hf]; by_cases hz9 : f < q + i; exact (if_pos (nI_lt hz9 (by omega))).trans (congrArg nI (if_pos hz9).symm); exact (if_neg (fun z => hz9 ((nI_ltI (by omega) (by omega)).mp z))).trans (congrArg nI (if_neg hz9).symm))
          refine x_iconst (v := 0) 72 C0 dX2_readWord_71 rfl (by decide) ?_
          exact x_ireturn C0 dX2_readWord_72 rfl rfl (Nat.le_of_ble_eq_true rfl) (Nat.le_of_ble_eq_true rfl) ⟨rfl, _, rfl, hT6, fun i h => if_neg (fun e => h (Or.inr e)), Or.inr (by have hm9 : mt n sg q w9 i = false := decide_eq_false (fun z => c4 (z.trans (hW.2 i (by omega)).symm)); have e9 : alw n sg q w9 = i := by { unfold alw; exact al_stop hal hm9 (wl w9) (by omega) }; exact ⟨by rw [e9]; omega, rfl, (if_neg (by decide)).trans hq, by { rw [e9]; refine (if_pos rfl).trans ?_; rw [hf]; by_cases hz9 : f < q + i; exact (if_pos (nI_lt hz9 (by omega))).trans (congrArg nI (if_pos hz9).symm); exact (if_neg (fun z => hz9 ((nI_ltI (by omega) (by omega)).mp z))).trans (congrArg nI (if_neg hz9).symm) }⟩)⟩
        · refine x_iinc [(2, .int (nI (i + 1))), (0, .ref a), (1, .ref (g.2 (100 + i0)))] 2 31 C0 dX2_readWord_28 rfl rfl (nI_1 i) (by decide) rfl ?_
          refine x_lv (lv1 := [(0, .ref a), (1, .ref (g.2 (100 + i0))), (2, .int (nI (i + 1)))]) [1, 2, 0] rfl ?_
          refine x_goto 2 C0 dX2_readWord_31 (by decide) ?_
          exact ih (i + 1) (by omega) (by omega) (Or.inr (by have := sgAt_in hT.2.1 (by omega) (fun z => (xb_ch i0 hi0 i (by omega)).2 (c4.symm.trans z)); omega)) (al_go hal (decide_eq_true (c4.trans (hW.2 i (by omega)))))
  exact x_lv [0, 1, 2] rfl (loop2 (xlen.getD i0 0 + 1) 0 (by omega) (by omega) (Or.inl rfl) rfl)

set_option maxHeartbeats 4000000 in
set_option maxRecDepth 100000 in
theorem e_X2_readVerb (l : Launch) (hl : l.stackTraces = false) (g : xg_T) (w : xw_T) (sz a n : Nat) (tt : Nat → Int32) (vb : Option Nat) (sg : Nat → Int32) (hw : w a = some (.inr (4, txtL a tt vb))) (hs : w (a + 1) = some (siE g sg)) (hA : xA g a) (hT : tOk n tt) (hv : vbOk g vb) (q : Nat) (hq : tt 1 = nI q) (hq60 : q ≤ 60) : xM l g yX2_readVerb cX2_readVerb 5 (some (.object "TeaChests$Verb")) ({ frames := 5, cells := 0, slots := 0, locals := 107 }) 0 0 [.ref a] w sz (tX g w sz a n tt vb (fun i => i = 1 ∨ i = 2) (fun r tt' => (∃ i : Nat, i < 8 ∧ fwd n sg q 0 8 = i ∧ r = some (.ref (g.2 (30 + i))) ∧ tt' 1 = nI (pwd n sg q 0 8)) ∨ (fwd n sg q 0 8 = 0 + 8 ∧ r = some .null ∧ tt' 1 = nI (pwd n sg q 0 8)))) (fun _ _ _ => False) := by
  refine xM.of RX2 hl (by decide +kernel) rfl (Nat.le_of_ble_eq_true rfl) rfl ?_
  intro p e s m args below meth cD C0 hini
  refine x_aload_n 0 1 C0 dX2_readVerb_0 rfl rfl rfl ?_
  refine x_aload_n 0 2 C0 dX2_readVerb_1 rfl rfl rfl ?_
  refine x_getf (v := .int (tt 1)) 2 5 C0 dX2_readVerb_2 rfl hw rfl (by decide) inX2 mF_X2_19 rfl ?_
  refine x_putf 3 8 C0 dX2_readVerb_5 rfl hw hA rfl (by decide) inX2 tyX2_ok nmX2 mF_X2_87 rfl rfl rfl rfl (Nat.le_of_ble_eq_true rfl) ?_
  refine x_w (w1 := (xup w a (.inr (4, txtL a (upd tt 2 (tt 1)) vb)))) rfl ?_
  have hT1 : tOk n (upd tt 2 (tt 1)) := hT.fa hq60 hq
  refine x_getsN 11 C0 dX2_readVerb_8 rfl (xs_verbs C0.2.2.2.2.2.2.2.1.2.2).1 (xs_nf C0.2.2.2.2.2.2.2.1.2.2 (RX2, 90, "TeaChests", "VERBS", "[LTeaChests$Verb;", "TeaChests") (by decide +kernel)) ?_
  refine x_astore_n [(1, .ref (g.2 11)), (0, .ref a)] 12 C0 dX2_readVerb_11 rfl rfl (by decide) rfl ?_
  refine x_lv (lv1 := [(0, .ref a), (1, .ref (g.2 11))]) [1, 0] rfl ?_
  refine x_aload_n 1 13 C0 dX2_readVerb_12 rfl rfl rfl ?_
  refine x_tlen 14 C0 dX2_readVerb_13 rfl (xs_verbs C0.2.2.2.2.2.2.2.1.2.2).2 (v := 8) rfl ?_
  refine x_istore_n [(2, .int 8), (0, .ref a), (1, .ref (g.2 11))] 15 C0 dX2_readVerb_14 rfl rfl (by decide) rfl ?_
  refine x_lv (lv1 := [(0, .ref a), (1, .ref (g.2 11)), (2, .int 8)]) [1, 2, 0] rfl ?_
  refine x_iconst (v := 0) 16 C0 dX2_readVerb_15 rfl (by decide) ?_
  refine x_istore_n [(3, .int 0), (0, .ref a), (1, .ref (g.2 11)), (2, .int 8)] 17 C0 dX2_readVerb_16 rfl rfl (by decide) rfl ?_
  refine x_lv (lv1 := [(0, .ref a), (1, .ref (g.2 11)), (2, .int 8), (3, .int 0)]) [1, 2, 3, 0] rfl ?_
  have loop17 : ∀ (N i : Nat), i ≤ 8 → 8 - i < N → ∀ (t : Nat → Int32), tOk n t → t 1 = nI q → t 2 = nI (q + mx1 (alw n sg q) 0 i) → fst1 (isW n sg q) 0 i = 0 + i → (∀ j, ¬ (j = 1 ∨ j = 2) → t j = tt j) → xV p l e ({ frames := 5, cells := 0, slots := 0, locals := 107 }) s m args below meth cD (xQ g below (tX g w sz a n tt vb (fun i => i = 1 ∨ i = 2) (fun r tt' => (∃ i : Nat, i < 8 ∧ fwd n sg q 0 8 = i ∧ r = some (.ref (g.2 (30 + i))) ∧ tt' 1 = nI (pwd n sg q 0 8)) ∨ (fwd n sg q 0 8 = 0 + 8 ∧ r = some .null ∧ tt' 1 = nI (pwd n sg q 0 8)))) (fun _ _ _ => False) args s 0 0) g 5 (xup w a (.inr (4, txtL a t vb))) sz (0) (0) 17 [(0, .ref a), (1, .ref (g.2 11)), (2, .int 8), (3, .int (nI i))] [] := by
    intro N
    induction N with
    | zero => intro i h1 h2; omega
    | succ N ih =>
      intro i hi hN t hT0 h1 h2 hfd hkl
      refine x_iload_n 3 18 C0 dX2_readVerb_17 rfl rfl rfl ?_
      refine x_iload_n 2 19 C0 dX2_readVerb_18 rfl rfl rfl ?_
      refine x_icmp_ge 48 22 C0 dX2_readVerb_19 rfl (by decide) (fun c2 => ?_) (fun c2 => ?_)
      · obtain rfl := ix_eq 8 rfl (by decide) hi c2
        refine x_aload_n 0 49 C0 dX2_readVerb_48 rfl rfl rfl ?_
        refine x_aload_n 0 50 C0 dX2_readVerb_49 rfl rfl rfl ?_
        refine x_getf (v := .int (t 2)) 3 53 C0 dX2_readVerb_50 rfl (xup_s _ _ _) rfl (by decide) inX2 mF_X2_87 rfl ?_
        refine x_putf 2 56 C0 dX2_readVerb_53 rfl (xup_s _ _ _) hA rfl (by decide) inX2 tyX2_ok nmX2 mF_X2_19 rfl rfl rfl rfl (Nat.le_of_ble_eq_true rfl) ?_
        refine x_w (w1 := (xup w a (.inr (4, txtL a (upd t 1 (t 2)) vb)))) (xup_2 _ _ _ _) ?_
        have hT3 : tOk n (upd t 1 (t 2)) := hT0.at (tOk_f hT0 h2 (by have := mxw_le n sg q 0 8; omega)) h2
        refine x_null 57 C0 dX2_readVerb_56 rfl ?_
        exact x_areturn C0 dX2_readVerb_57 rfl (Or.inl ⟨_, rfl⟩) (Or.inl rfl) (Nat.le_of_ble_eq_true rfl) (Nat.le_of_ble_eq_true rfl) ⟨rfl, _, rfl, hT3, fun i h => (if_neg (fun e => h (Or.inl e))).trans (hkl i h), Or.inr ⟨hfd, rfl, (if_pos rfl).trans (h2.trans (congrArg nI (pwd_n hfd).symm))⟩⟩
      · have hi2 := ix_lt 8 rfl (by decide) hi c2
        refine x_aload_n 1 23 C0 dX2_readVerb_22 rfl rfl rfl ?_
        refine x_iload_n 3 24 C0 dX2_readVerb_23 rfl rfl rfl ?_
        refine x_tq 25 C0 (v := .ref (g.2 (30 + i))) dX2_readVerb_24 rfl (xs_verbs C0.2.2.2.2.2.2.2.1.2.2).2 (vp_in_nI hi2 (by decide)) (by rw [nI_clamp (by omega)]) ?_
        refine x_astore [(4, .ref (g.2 (30 + i))), (0, .ref a), (1, .ref (g.2 11)), (2, .int 8), (3, .int (nI i))] 27 C0 dX2_readVerb_25 rfl (by decide) rfl ?_
        refine x_lv (lv1 := [(0, .ref a), (1, .ref (g.2 11)), (2, .int 8), (3, .int (nI i)), (4, .ref (g.2 (30 + i)))]) [1, 2, 3, 4, 0] rfl ?_
        refine x_aload_n 0 28 C0 dX2_readVerb_27 rfl rfl rfl ?_
        refine x_aload 4 30 C0 dX2_readVerb_28 rfl rfl ?_
        refine x_getO 33 C0 (v := .ref (g.2 (105 + i))) dX2_readVerb_30 rfl (xs_vw C0.2.2.2.2.2.2.2.1.2.2 i hi2) mF_X2_94 ?_
        refine x_st (st1 := [.ref (g.2 (100 + (5 + i))), .ref a]) (by rw [show 105 + i = 100 + (5 + i) by omega]) ?_
        refine x_callV 36 C0 (e_X2_readWord l hl g _ _ a _ _ _ _ (xup_s _ _ _) ((xup_n (by omega)).trans hs) hA hT0 hv q h1 hq60 (q + mx1 (alw n sg q) 0 i) h2 (tOk_f hT0 h2 (by have := mxw_le n sg q 0 i; omega)) (5 + i) (0 + i) (by omega) (by rw [Nat.zero_add]; exact wl_c.1 i hi2)) dX2_readVerb_33 rfl mC_X2_readWord mM_X2_98 mI_X2_readWord mV_X2_readWord mN_X2 yd_X2_readWord rfl rfl ⟨Nat.le_of_ble_eq_true rfl, Nat.le_of_ble_eq_true rfl⟩ (xup_s _ _ _) rfl rfl rfl rfl (Nat.le_of_ble_eq_true rfl) ⟨Nat.le_of_ble_eq_true rfl, Nat.le_of_ble_eq_true rfl⟩ (fun _ _ _ q => False.elim q) (fun r w1 sz1 hz hP => ?_)
        obtain ⟨rfl, t4, rfl, hT4, hk4, hQ4⟩ := hP
        rcases hQ4 with ⟨hc4, rfl, hp4, hf4⟩ | ⟨hc4, rfl, hp4, hf4⟩
        · refine x_w (xup_2 _ _ _ _) ?_
          refine x_st (st1 := [.int 1]) rfl ?_
          refine x_if_eq 42 39 C0 dX2_readVerb_36 rfl (by decide) (fun q => False.elim (by revert q; decide)) (fun _ => ?_)
          refine x_aload 4 41 C0 dX2_readVerb_39 rfl rfl ?_
          exact x_areturn C0 dX2_readVerb_41 rfl (Or.inl ⟨_, rfl⟩) (Or.inr ⟨_, rfl⟩) (Nat.le_of_ble_eq_true rfl) (Nat.le_of_ble_eq_true rfl) ⟨rfl, _, rfl, hT4, (fun i h => (hk4 i h).trans (hkl i h)), Or.inl (by have e9 : fwd n sg q 0 8 = 0 + i := fst_hit hfd (decide_eq_true hc4) 8 hi2; exact ⟨i, hi2, e9.trans (Nat.zero_add i), rfl, by rw [hp4, pwd_y e9 hi2]⟩)⟩
        · refine x_w (xup_2 _ _ _ _) ?_
          refine x_st (st1 := [.int 0]) rfl ?_
          refine x_if_eq 42 39 C0 dX2_readVerb_36 rfl (by decide) (fun _ => ?_) (fun q => False.elim (by revert q; decide))
          refine x_iinc [(3, .int (nI (i + 1))), (0, .ref a), (1, .ref (g.2 11)), (2, .int 8), (4, .ref (g.2 (30 + i)))] 3 45 C0 dX2_readVerb_42 rfl rfl (nI_1 i) (by decide) rfl ?_
          refine x_lv (lv1 := [(0, .ref a), (1, .ref (g.2 11)), (2, .int 8), (3, .int (nI (i + 1))), (4, .ref (g.2 (30 + i)))]) [1, 2, 3, 0, 4] rfl ?_
          refine x_goto 17 C0 dX2_readVerb_45 (by decide) ?_
          exact x_lv [0, 1, 2, 3] rfl (ih (i + 1) (by omega) (by omega) _ hT4 hp4 (by rw [hf4, mx_go, mx_add]) (fst_go hfd (decide_eq_false (by omega))) (fun j h => (hk4 j h).trans (hkl j h)))
  exact x_lv [0, 1, 2, 3] rfl (loop17 9 0 (by omega) (by omega) _ hT1 ((if_neg (by decide)).trans hq) ((if_pos rfl).trans hq) rfl (fun j h => if_neg (fun e => h (Or.inr e))))

set_option maxHeartbeats 4000000 in
set_option maxRecDepth 100000 in
theorem e_X2_readKind (l : Launch) (hl : l.stackTraces = false) (g : xg_T) (w : xw_T) (sz a n : Nat) (tt : Nat → Int32) (vb : Option Nat) (sg : Nat → Int32) (hw : w a = some (.inr (4, txtL a tt vb))) (hs : w (a + 1) = some (siE g sg)) (hA : xA g a) (hT : tOk n tt) (hv : vbOk g vb) (q : Nat) (hq : tt 1 = nI q) (hq60 : q ≤ 60) : xM l g yX2_readKind cX2_readKind 2 (some .boolean) ({ frames := 5, cells := 0, slots := 0, locals := 107 }) 0 0 [.ref a] w sz (tX g w sz a n tt vb (fun i => i = 1 ∨ i = 2 ∨ i = 5) (fun r tt' => (∃ i : Nat, i < 3 ∧ fwd n sg q 8 3 = 8 + i ∧ r = some (.int 1) ∧ tt' 1 = nI (pwd n sg q 8 3) ∧ tt' 5 = nI i) ∨ (fwd n sg q 8 3 = 8 + 3 ∧ r = some (.int 0) ∧ tt' 1 = nI (pwd n sg q 8 3)))) (fun _ _ _ => False) := by
  refine xM.of RX2 hl (by decide +kernel) rfl (Nat.le_of_ble_eq_true rfl) rfl ?_
  intro p e s m args below meth cD C0 hini
  refine x_aload_n 0 1 C0 dX2_readKind_0 rfl rfl rfl ?_
  refine x_aload_n 0 2 C0 dX2_readKind_1 rfl rfl rfl ?_
  refine x_getf (v := .int (tt 1)) 2 5 C0 dX2_readKind_2 rfl hw rfl (by decide) inX2 mF_X2_19 rfl ?_
  refine x_putf 3 8 C0 dX2_readKind_5 rfl hw hA rfl (by decide) inX2 tyX2_ok nmX2 mF_X2_87 rfl rfl rfl rfl (Nat.le_of_ble_eq_true rfl) ?_
  refine x_w (w1 := (xup w a (.inr (4, txtL a (upd tt 2 (tt 1)) vb)))) rfl ?_
  have hT1 : tOk n (upd tt 2 (tt 1)) := hT.fa hq60 hq
  refine x_iconst (v := 0) 9 C0 dX2_readKind_8 rfl (by decide) ?_
  refine x_istore_n [(1, .int 0), (0, .ref a)] 10 C0 dX2_readKind_9 rfl rfl (by decide) rfl ?_
  refine x_lv (lv1 := [(0, .ref a), (1, .int 0)]) [1, 0] rfl ?_
  have loop10 : ∀ (N i : Nat), i ≤ 3 → 3 - i < N → ∀ (t : Nat → Int32), tOk n t → t 1 = nI q → t 2 = nI (q + mx1 (alw n sg q) 8 i) → fst1 (isW n sg q) 8 i = 8 + i → (∀ j, ¬ (j = 1 ∨ j = 2) → t j = tt j) → xV p l e ({ frames := 5, cells := 0, slots := 0, locals := 107 }) s m args below meth cD (xQ g below (tX g w sz a n tt vb (fun i => i = 1 ∨ i = 2 ∨ i = 5) (fun r tt' => (∃ i : Nat, i < 3 ∧ fwd n sg q 8 3 = 8 + i ∧ r = some (.int 1) ∧ tt' 1 = nI (pwd n sg q 8 3) ∧ tt' 5 = nI i) ∨ (fwd n sg q 8 3 = 8 + 3 ∧ r = some (.int 0) ∧ tt' 1 = nI (pwd n sg q 8 3)))) (fun _ _ _ => False) args s 0 0) g 2 (xup w a (.inr (4, txtL a t vb))) sz (0) (0) 10 [(0, .ref a), (1, .int (nI i))] [] := by
    intro N
    induction N with
    | zero => intro i h1 h2; omega
    | succ N ih =>
      intro i hi hN t hT0 h1 h2 hfd hkl
      refine x_iload_n 1 11 C0 dX2_readKind_10 rfl rfl rfl ?_
      refine x_getsN 14 C0 dX2_readKind_11 rfl (xs_kinds C0.2.2.2.2.2.2.2.1.2.2).1 (xs_nf C0.2.2.2.2.2.2.2.1.2.2 (RX2, 102, "TeaChests", "KINDS", "[LTeaChests$Kind;", "TeaChests") (by decide +kernel)) ?_
      refine x_tlen 15 C0 dX2_readKind_14 rfl (xs_kinds C0.2.2.2.2.2.2.2.1.2.2).2 (v := 3) rfl ?_
      refine x_icmp_ge 46 18 C0 dX2_readKind_15 rfl (by decide) (fun c2 => ?_) (fun c2 => ?_)
      · obtain rfl := ix_eq 3 rfl (by decide) hi c2
        refine x_aload_n 0 47 C0 dX2_readKind_46 rfl rfl rfl ?_
        refine x_aload_n 0 48 C0 dX2_readKind_47 rfl rfl rfl ?_
        refine x_getf (v := .int (t 2)) 3 51 C0 dX2_readKind_48 rfl (xup_s _ _ _) rfl (by decide) inX2 mF_X2_87 rfl ?_
        refine x_putf 2 54 C0 dX2_readKind_51 rfl (xup_s _ _ _) hA rfl (by decide) inX2 tyX2_ok nmX2 mF_X2_19 rfl rfl rfl rfl (Nat.le_of_ble_eq_true rfl) ?_
        refine x_w (w1 := (xup w a (.inr (4, txtL a (upd t 1 (t 2)) vb)))) (xup_2 _ _ _ _) ?_
        have hT3 : tOk n (upd t 1 (t 2)) := hT0.at (tOk_f hT0 h2 (by have := mxw_le n sg q 8 3; omega)) h2
        refine x_iconst (v := 0) 55 C0 dX2_readKind_54 rfl (by decide) ?_
        exact x_ireturn C0 dX2_readKind_55 rfl rfl (Nat.le_of_ble_eq_true rfl) (Nat.le_of_ble_eq_true rfl) ⟨rfl, _, rfl, hT3, fun i h => (if_neg (fun e => h (Or.inl e))).trans (hkl i (fun e => h (e.elim Or.inl (fun z => Or.inr (Or.inl z))))), Or.inr ⟨hfd, rfl, (if_pos rfl).trans (h2.trans (congrArg nI (pwd_n hfd).symm))⟩⟩
      · have hi2 := ix_lt 3 rfl (by decide) hi c2
        refine x_aload_n 0 19 C0 dX2_readKind_18 rfl rfl rfl ?_
        refine x_getsN 22 C0 dX2_readKind_19 rfl (xs_kinds C0.2.2.2.2.2.2.2.1.2.2).1 (xs_nf C0.2.2.2.2.2.2.2.1.2.2 (RX2, 102, "TeaChests", "KINDS", "[LTeaChests$Kind;", "TeaChests") (by decide +kernel)) ?_
        refine x_iload_n 1 23 C0 dX2_readKind_22 rfl rfl rfl ?_
        refine x_tq 24 C0 (v := .ref (g.2 (20 + i))) dX2_readKind_23 rfl (xs_kinds C0.2.2.2.2.2.2.2.1.2.2).2 (vp_in_nI hi2 (by decide)) (by rw [nI_clamp (by omega)]) ?_
        refine x_getO 27 C0 (v := .ref (g.2 (102 + i))) dX2_readKind_24 rfl (xs_kw C0.2.2.2.2.2.2.2.1.2.2 i hi2) mF_X2_106 ?_
        refine x_st (st1 := [.ref (g.2 (100 + (2 + i))), .ref a]) (by rw [show 102 + i = 100 + (2 + i) by omega]) ?_
        refine x_callV 30 C0 (e_X2_readWord l hl g _ _ a _ _ _ _ (xup_s _ _ _) ((xup_n (by omega)).trans hs) hA hT0 hv q h1 hq60 (q + mx1 (alw n sg q) 8 i) h2 (tOk_f hT0 h2 (by have := mxw_le n sg q 8 i; omega)) (2 + i) (8 + i) (by omega) (wl_c.2 i hi2)) dX2_readKind_27 rfl mC_X2_readWord mM_X2_98 mI_X2_readWord mV_X2_readWord mN_X2 yd_X2_readWord rfl rfl ⟨Nat.le_of_ble_eq_true rfl, Nat.le_of_ble_eq_true rfl⟩ (xup_s _ _ _) rfl rfl rfl rfl (Nat.le_of_ble_eq_true rfl) ⟨Nat.le_of_ble_eq_true rfl, Nat.le_of_ble_eq_true rfl⟩ (fun _ _ _ q => False.elim q) (fun r w1 sz1 hz hP => ?_)
        obtain ⟨rfl, t4, rfl, hT4, hk4, hQ4⟩ := hP
        rcases hQ4 with ⟨hc4, rfl, hp4, hf4⟩ | ⟨hc4, rfl, hp4, hf4⟩
        · refine x_w (xup_2 _ _ _ _) ?_
          refine x_st (st1 := [.int 1]) rfl ?_
          refine x_if_eq 40 33 C0 dX2_readKind_30 rfl (by decide) (fun q => False.elim (by revert q; decide)) (fun _ => ?_)
          refine x_aload_n 0 34 C0 dX2_readKind_33 rfl rfl rfl ?_
          refine x_iload_n 1 35 C0 dX2_readKind_34 rfl rfl rfl ?_
          refine x_putf 7 38 C0 dX2_readKind_35 rfl (xup_s _ _ _) hA rfl (by decide) inX2 tyX2_ok nmX2 mF_X2_109 rfl rfl rfl rfl (Nat.le_of_ble_eq_true rfl) ?_
          refine x_w (w1 := (xup w a (.inr (4, txtL a (upd t4 5 (nI i)) vb)))) (xup_2 _ _ _ _) ?_
          have hT6 : tOk n (upd t4 5 (nI i)) := hT4.up (by decide)
          refine x_iconst (v := 1) 39 C0 dX2_readKind_38 rfl (by decide) ?_
          exact x_ireturn C0 dX2_readKind_39 rfl rfl (Nat.le_of_ble_eq_true rfl) (Nat.le_of_ble_eq_true rfl) ⟨rfl, _, rfl, hT6, fun i h => (if_neg (fun e => h (Or.inr (Or.inr e)))).trans ((hk4 i (fun e => h (e.elim Or.inl (fun z => Or.inr (Or.inl z))))).trans (hkl i (fun e => h (e.elim Or.inl (fun z => Or.inr (Or.inl z)))))), Or.inl (by have e9 : fwd n sg q 8 3 = 8 + i := fst_hit hfd (decide_eq_true hc4) 3 hi2; exact ⟨i, hi2, e9, rfl, (if_neg (by decide)).trans (by rw [hp4, pwd_y e9 hi2]), if_pos rfl⟩)⟩
        · refine x_w (xup_2 _ _ _ _) ?_
          refine x_st (st1 := [.int 0]) rfl ?_
          refine x_if_eq 40 33 C0 dX2_readKind_30 rfl (by decide) (fun _ => ?_) (fun q => False.elim (by revert q; decide))
          refine x_iinc [(1, .int (nI (i + 1))), (0, .ref a)] 1 43 C0 dX2_readKind_40 rfl rfl (nI_1 i) (by decide) rfl ?_
          refine x_lv (lv1 := [(0, .ref a), (1, .int (nI (i + 1)))]) [1, 0] rfl ?_
          refine x_goto 10 C0 dX2_readKind_43 (by decide) ?_
          exact x_lv [0, 1] rfl (ih (i + 1) (by omega) (by omega) _ hT4 hp4 (by rw [hf4, mx_go, mx_add]) (fst_go hfd (decide_eq_false (by omega))) (fun j h => (hk4 j h).trans (hkl j h)))
  exact x_lv [0, 1] rfl (loop10 4 0 (by omega) (by omega) _ hT1 ((if_neg (by decide)).trans hq) ((if_pos rfl).trans hq) rfl (fun j h => if_neg (fun e => h (Or.inr e))))

set_option maxHeartbeats 4000000 in
set_option maxRecDepth 100000 in
theorem e_X2_readLeaf (l : Launch) (hl : l.stackTraces = false) (g : xg_T) (w : xw_T) (sz a n : Nat) (tt : Nat → Int32) (vb : Option Nat) (sg : Nat → Int32) (hw : w a = some (.inr (4, txtL a tt vb))) (hs : w (a + 1) = some (siE g sg)) (hA : xA g a) (hT : tOk n tt) (hv : vbOk g vb) (q : Nat) (hq : tt 1 = nI q) (hq60 : q ≤ 60) : xM l g yX2_readLeaf cX2_readLeaf 1 (some .boolean) ({ frames := 6, cells := 0, slots := 0, locals := 128 }) 0 0 [.ref a] w sz (tX g w sz a n tt vb (fun i => i = 1 ∨ i = 2 ∨ i = 4 ∨ i = 5) (fun r tt' => (dgt n sg q = true ∧ sgn n sg (q + 1) = 46 ∧ r = some (.int 1) ∧ tt' 1 = nI (pwd n sg (q + 1 + 1) 8 3) ∧ tt' 4 = nI (dv n sg q) ∧ ∃ i : Nat, i < 3 ∧ fwd n sg (q + 1 + 1) 8 3 = 8 + i ∧ tt' 5 = nI i) ∨ (dgt n sg q = true ∧ sgn n sg (q + 1) = 46 ∧ fwd n sg (q + 1 + 1) 8 3 = 8 + 3 ∧ r = some (.int 0) ∧ tt' 1 = nI (pwd n sg (q + 1 + 1) 8 3)) ∨ (dgt n sg q = true ∧ ¬ sgn n sg (q + 1) = 46 ∧ r = some (.int 0) ∧ tt' 1 = nI (q + 1)) ∨ (¬ dgt n sg q = true ∧ r = some (.int 0) ∧ tt' 1 = nI q))) (fun _ _ _ => False) := by
  refine xM.of RX2 hl (by decide +kernel) rfl (Nat.le_of_ble_eq_true rfl) rfl ?_
  intro p e s m args below meth cD C0 hini
  refine x_aload_n 0 1 C0 dX2_readLeaf_0 rfl rfl rfl ?_
  refine x_aload_n 0 2 C0 dX2_readLeaf_1 rfl rfl rfl ?_
  refine x_callV 5 C0 (e_X2_readDigit l hl g _ _ a _ _ _ _ hw hs hA hT hv q hq hq60) dX2_readLeaf_2 rfl mC_X2_readDigit mM_X2_69 mI_X2_readDigit mV_X2_readDigit mN_X2 yd_X2_readDigit rfl rfl ⟨Nat.le_of_ble_eq_true rfl, Nat.le_of_ble_eq_true rfl⟩ hw rfl rfl rfl rfl (Nat.le_of_ble_eq_true rfl) ⟨Nat.le_of_ble_eq_true rfl, Nat.le_of_ble_eq_true rfl⟩ (fun _ _ _ q => False.elim q) (fun r w1 sz1 hz hP => ?_)
  obtain ⟨rfl, t1, rfl, hT1, hk1, hQ1⟩ := hP
  rcases hQ1 with ⟨hc1, rfl, hp1⟩ | ⟨hc1, rfl, hp1⟩
  · have hq61 : q + 1 ≤ 60 := tOk_q hT1 hp1 (by omega)
    refine x_st (st1 := [.int (nI (dv n sg q)), .ref a]) rfl ?_
    refine x_putf 6 8 C0 dX2_readLeaf_5 rfl (xup_s _ _ _) hA rfl (by decide) inX2 tyX2_ok nmX2 mF_X2_72 rfl rfl rfl rfl (Nat.le_of_ble_eq_true rfl) ?_
    refine x_w (w1 := (xup w a (.inr (4, txtL a (upd t1 4 (nI (dv n sg q))) vb)))) (xup_2 _ _ _ _) ?_
    have hT2 : tOk n (upd t1 4 (nI (dv n sg q))) := hT1.up (by decide)
    refine x_aload_n 0 9 C0 dX2_readLeaf_8 rfl rfl rfl ?_
    refine x_getf (v := .int (nI (dv n sg q))) 6 12 C0 dX2_readLeaf_9 rfl (xup_s _ _ _) rfl (by decide) inX2 mF_X2_72 rfl ?_
    refine x_if_lt 35 15 C0 dX2_readLeaf_12 rfl (by decide) (fun c3 => ?_) (fun c3 => ?_)
    · exact absurd c3 (Int32.not_lt.mpr (nI_pos' (by have := dv_ok (by assumption : dgt n sg q = true); omega)))
    refine x_aload_n 0 16 C0 dX2_readLeaf_15 rfl rfl rfl ?_
    refine x_bipush (v := 46) 18 C0 dX2_readLeaf_16 rfl (by decide) ?_
    refine x_callV 21 C0 (e_X2_readSign l hl g _ _ a _ _ _ _ (xup_s _ _ _) ((xup_n (by omega)).trans hs) hA hT2 hv (q + 1) hp1 hq61 46 (by decide)) dX2_readLeaf_18 rfl mC_X2_readSign mM_X2_29 mI_X2_readSign mV_X2_readSign mN_X2 yd_X2_readSign rfl rfl ⟨Nat.le_of_ble_eq_true rfl, Nat.le_of_ble_eq_true rfl⟩ (xup_s _ _ _) rfl rfl rfl rfl (Nat.le_of_ble_eq_true rfl) ⟨Nat.le_of_ble_eq_true rfl, Nat.le_of_ble_eq_true rfl⟩ (fun _ _ _ q => False.elim q) (fun r w1 sz1 hz hP => ?_)
    obtain ⟨rfl, t4, rfl, hT4, hk4, hQ4⟩ := hP
    rcases hQ4 with ⟨hc4, rfl, hp4⟩ | ⟨hc4, rfl, hp4⟩
    · have hq64 : (q + 1) + 1 ≤ 60 := tOk_q hT4 hp4 (by omega)
      refine x_w (xup_2 _ _ _ _) ?_
      refine x_st (st1 := [.int 1]) rfl ?_
      refine x_if_eq 35 24 C0 dX2_readLeaf_21 rfl (by decide) (fun q => False.elim (by revert q; decide)) (fun _ => ?_)
      refine x_aload_n 0 25 C0 dX2_readLeaf_24 rfl rfl rfl ?_
      refine x_callV 28 C0 (e_X2_readKind l hl g _ _ a _ _ _ _ (xup_s _ _ _) ((xup_n (by omega)).trans hs) hA hT4 hv ((q + 1) + 1) hp4 hq64) dX2_readLeaf_25 rfl mC_X2_readKind mM_X2_75 mI_X2_readKind mV_X2_readKind mN_X2 yd_X2_readKind rfl rfl ⟨Nat.le_of_ble_eq_true rfl, Nat.le_of_ble_eq_true rfl⟩ (xup_s _ _ _) rfl rfl rfl rfl (Nat.le_of_ble_eq_true rfl) ⟨Nat.le_of_ble_eq_true rfl, Nat.le_of_ble_eq_true rfl⟩ (fun _ _ _ q => False.elim q) (fun r w1 sz1 hz hP => ?_)
      obtain ⟨rfl, t6, rfl, hT6, hk6, hQ6⟩ := hP
      rcases hQ6 with ⟨ik6, hik6, hc6, rfl, hp6, hv6⟩ | ⟨hc6, rfl, hp6⟩
      · have hq66 : pwd n sg ((q + 1) + 1) 8 3 ≤ 60 := tOk_q hT6 hp6 (by have := pwd_le n sg (((q + 1) + 1)) 8 3; omega)
        refine x_w (xup_2 _ _ _ _) ?_
        refine x_st (st1 := [.int 1]) rfl ?_
        refine x_if_eq 35 31 C0 dX2_readLeaf_28 rfl (by decide) (fun q => False.elim (by revert q; decide)) (fun _ => ?_)
        refine x_iconst (v := 1) 32 C0 dX2_readLeaf_31 rfl (by decide) ?_
        refine x_goto 36 C0 dX2_readLeaf_32 (by decide) ?_
        exact x_ireturn C0 dX2_readLeaf_36 rfl rfl (Nat.le_of_ble_eq_true rfl) (Nat.le_of_ble_eq_true rfl) ⟨rfl, _, rfl, hT6, fun i h => (hk6 i (fun e => h (e.elim Or.inl (fun z => z.elim (fun y => Or.inr (Or.inl y)) (fun y => Or.inr (Or.inr (Or.inr y))))))).trans ((hk4 i (fun e => h (Or.inl e))).trans ((if_neg (fun e => h (Or.inr (Or.inr (Or.inl e))))).trans (hk1 i (fun e => h (Or.inl e))))), Or.inl ⟨hc1, hc4, rfl, hp6, (hk6 4 (by decide)).trans ((hk4 4 (by decide)).trans (if_pos rfl)), ik6, hik6, hc6, hv6⟩⟩
      · have hq66 : pwd n sg ((q + 1) + 1) 8 3 ≤ 60 := tOk_q hT6 hp6 (by have := pwd_le n sg (((q + 1) + 1)) 8 3; omega)
        refine x_w (xup_2 _ _ _ _) ?_
        refine x_st (st1 := [.int 0]) rfl ?_
        refine x_if_eq 35 31 C0 dX2_readLeaf_28 rfl (by decide) (fun _ => ?_) (fun q => False.elim (by revert q; decide))
        refine x_iconst (v := 0) 36 C0 dX2_readLeaf_35 rfl (by decide) ?_
        exact x_ireturn C0 dX2_readLeaf_36 rfl rfl (Nat.le_of_ble_eq_true rfl) (Nat.le_of_ble_eq_true rfl) ⟨rfl, _, rfl, hT6, fun i h => (hk6 i (fun e => h (e.elim Or.inl (fun z => z.elim (fun y => Or.inr (Or.inl y)) (fun y => Or.inr (Or.inr (Or.inr y))))))).trans ((hk4 i (fun e => h (Or.inl e))).trans ((if_neg (fun e => h (Or.inr (Or.inr (Or.inl e))))).trans (hk1 i (fun e => h (Or.inl e))))), Or.inr (Or.inl ⟨hc1, hc4, hc6, rfl, hp6⟩)⟩
    · have hq64 : (q + 1) ≤ 60 := tOk_q hT4 hp4 (by omega)
      refine x_w (xup_2 _ _ _ _) ?_
      refine x_st (st1 := [.int 0]) rfl ?_
      refine x_if_eq 35 24 C0 dX2_readLeaf_21 rfl (by decide) (fun _ => ?_) (fun q => False.elim (by revert q; decide))
      refine x_iconst (v := 0) 36 C0 dX2_readLeaf_35 rfl (by decide) ?_
      exact x_ireturn C0 dX2_readLeaf_36 rfl rfl (Nat.le_of_ble_eq_true rfl) (Nat.le_of_ble_eq_true rfl) ⟨rfl, _, rfl, hT4, fun i h => (hk4 i (fun e => h (Or.inl e))).trans ((if_neg (fun e => h (Or.inr (Or.inr (Or.inl e))))).trans (hk1 i (fun e => h (Or.inl e)))), Or.inr (Or.inr (Or.inl ⟨hc1, hc4, rfl, hp4⟩))⟩
  · have hq61 : q ≤ 60 := tOk_q hT1 hp1 (by omega)
    refine x_st (st1 := [.int (-1), .ref a]) rfl ?_
    refine x_putf 6 8 C0 dX2_readLeaf_5 rfl (xup_s _ _ _) hA rfl (by decide) inX2 tyX2_ok nmX2 mF_X2_72 rfl rfl rfl rfl (Nat.le_of_ble_eq_true rfl) ?_
    refine x_w (w1 := (xup w a (.inr (4, txtL a (upd t1 4 (-1)) vb)))) (xup_2 _ _ _ _) ?_
    have hT10 : tOk n (upd t1 4 (-1)) := hT1.up (by decide)
    refine x_aload_n 0 9 C0 dX2_readLeaf_8 rfl rfl rfl ?_
    refine x_getf (v := .int (-1)) 6 12 C0 dX2_readLeaf_9 rfl (xup_s _ _ _) rfl (by decide) inX2 mF_X2_72 rfl ?_
    refine x_if_lt 35 15 C0 dX2_readLeaf_12 rfl (by decide) (fun _ => ?_) (fun q => False.elim (by revert q; decide))
    refine x_iconst (v := 0) 36 C0 dX2_readLeaf_35 rfl (by decide) ?_
    exact x_ireturn C0 dX2_readLeaf_36 rfl rfl (Nat.le_of_ble_eq_true rfl) (Nat.le_of_ble_eq_true rfl) ⟨rfl, _, rfl, hT10, fun i h => (if_neg (fun e => h (Or.inr (Or.inr (Or.inl e))))).trans (hk1 i (fun e => h (Or.inl e))), Or.inr (Or.inr (Or.inr ⟨hc1, rfl, (if_neg (by decide)).trans hp1⟩))⟩

set_option maxHeartbeats 4000000 in
set_option maxRecDepth 100000 in
theorem e_X2_readCommand (l : Launch) (hl : l.stackTraces = false) (g : xg_T) (w : xw_T) (sz a n : Nat) (tt : Nat → Int32) (vb : Option Nat) (sg : Nat → Int32) (hw : w a = some (.inr (4, txtL a tt vb))) (hs : w (a + 1) = some (siE g sg)) (hA : xA g a) (hT : tOk n tt) (hv : vbOk g vb) (q : Nat) (hq : tt 1 = nI q) (hq60 : q ≤ 60) : xM l g yX2_readCommand cX2_readCommand 1 (some .boolean) ({ frames := 7, cells := 0, slots := 0, locals := 148 }) 0 0 [.ref a] w sz (fun r w1 sz1 => sz = sz1 ∧ ∃ tt' vb', w1 = xup w a (.inr (4, txtL a tt' vb')) ∧ tOk n tt' ∧ vbOk g vb' ∧ r = some (.int (bi (cRes n sg q).1)) ∧ tt' 1 = nI (cRes n sg q).2 ∧ ((cRes n sg q).1 = true → cArg g n sg q vb' tt')) (fun _ _ _ => False) := by
  refine xM.of RX2 hl (by decide +kernel) rfl (Nat.le_of_ble_eq_true rfl) rfl ?_
  intro p e s m args below meth cD C0 hini
  refine x_aload_n 0 1 C0 dX2_readCommand_0 rfl rfl rfl ?_
  refine x_aload_n 0 2 C0 dX2_readCommand_1 rfl rfl rfl ?_
  refine x_callV 5 C0 (e_X2_readVerb l hl g _ _ a _ _ _ _ hw hs hA hT hv q hq hq60) dX2_readCommand_2 rfl mC_X2_readVerb mM_X2_33 mI_X2_readVerb mV_X2_readVerb mN_X2 yd_X2_readVerb rfl rfl ⟨Nat.le_of_ble_eq_true rfl, Nat.le_of_ble_eq_true rfl⟩ hw rfl rfl rfl rfl (Nat.le_of_ble_eq_true rfl) ⟨Nat.le_of_ble_eq_true rfl, Nat.le_of_ble_eq_true rfl⟩ (fun _ _ _ q => False.elim q) (fun r w1 sz1 hz hP => ?_)
  obtain ⟨rfl, t1, rfl, hT1, hk1, hQ1⟩ := hP
  rcases hQ1 with ⟨i, hi, hfd, rfl, hp1⟩ | ⟨hfd, rfl, hp1⟩
  · have hq61 : c1 n sg q ≤ 60 := tOk_q hT1 hp1 (by have := pwd_le n sg q 0 8; unfold c1; omega)
    refine x_st (st1 := [.ref (g.2 (30 + i)), .ref a]) rfl ?_
    refine x_putf 4 8 C0 dX2_readCommand_5 rfl (xup_s _ _ _) hA rfl (by decide) inX2 tyX2_ok nmX2 mF_X2_37 rfl rfl rfl rfl (Nat.le_of_ble_eq_true rfl) ?_
    refine x_w (w1 := (xup w a (.inr (4, txtL a t1 (some (g.2 (30 + i))))))) (xup_2 _ _ _ _) ?_
    have hv2 : vbOk g (some (g.2 (30 + i))) := Or.inr ⟨i, hi, rfl⟩
    refine x_aload_n 0 9 C0 dX2_readCommand_8 rfl rfl rfl ?_
    refine x_getf (v := .ref (g.2 (30 + i))) 4 12 C0 dX2_readCommand_9 rfl (xup_s _ _ _) rfl (by decide) inX2 mF_X2_37 rfl ?_
    refine x_ifnonnull 17 C0 dX2_readCommand_12 (by decide) ?_
    refine x_gets 20 C0 dX2_readCommand_17 rfl (xs_map C0.2.2.2.2.2.2.2.1.2.2).1 mF_X2_41 ?_
    refine x_aload_n 0 21 C0 dX2_readCommand_20 rfl rfl rfl ?_
    refine x_getf (v := .ref (g.2 (30 + i))) 4 24 C0 dX2_readCommand_21 rfl (xup_s _ _ _) rfl (by decide) inX2 mF_X2_37 rfl ?_
    refine x_callU 27 (x := ⟨RX6, "ordinal", "()I"⟩) (owner := RJx29ce0) (C := RX6) C0 (k_Jx29ce0_ordinal_8abf5 l hl g _ _ i hi) dX2_readCommand_24 rfl mC_Jx29ce0_ordinal_8abf5 mM_X2_47 mE_X6_Jx29ce0_ordinal_10780 mI_Jx29ce0_ordinal_8abf5 (C0.2.2.2.2.1 _ mV_X6_TeaChests_Verb_ordinal_Jx29ce0_ordinal_8abf5) (xDecl C0 mI_Jx29ce0_ordinal_8abf5 mC_Jx29ce0_ordinal_8abf5) mN_Jx29ce0 yd_Jx29ce0_ordinal_8abf5 rfl rfl ⟨Nat.le_of_ble_eq_true rfl, Nat.le_of_ble_eq_true rfl⟩ (xRecv.co ((xs_vc C0.2.2.2.2.2.2.2.1.2.2).1 i hi)) rfl rfl (Nat.le_of_ble_eq_true rfl) ⟨Nat.le_of_ble_eq_true rfl, Nat.le_of_ble_eq_true rfl⟩ (fun _ _ _ q => False.elim q) (fun r w1 sz1 hz hP => ?_)
    obtain ⟨rfl, rfl, rfl⟩ := hP
    refine x_st (st1 := [.int (nI i), .ref (g.2 12)]) rfl ?_
    refine x_ti 28 C0 (v := .int (nI (i + 1))) dX2_readCommand_27 rfl (xs_map C0.2.2.2.2.2.2.2.1.2.2).2 (vp_in_nI hi (by decide)) (by rw [nI_clamp (by omega)]) ?_
    have hcase : (i = 0 ∨ i = 3 ∨ i = 4 ∨ i = 5) ∨ (i = 1) ∨ (i = 2) ∨ (i = 6) ∨ (i = 7) := by omega
    have sw153 : (i = 0 ∨ i = 3 ∨ i = 4 ∨ i = 5) → xV p l e ({ frames := 7, cells := 0, slots := 0, locals := 148 }) s m args below meth cD (xQ g below (fun r w1 sz1 => sz = sz1 ∧ ∃ tt' vb', w1 = xup w a (.inr (4, txtL a tt' vb')) ∧ tOk n tt' ∧ vbOk g vb' ∧ r = some (.int (bi (cRes n sg q).1)) ∧ tt' 1 = nI (cRes n sg q).2 ∧ ((cRes n sg q).1 = true → cArg g n sg q vb' tt')) (fun _ _ _ => False) args s 0 0) g 1 (xup w a (.inr (4, txtL a t1 (some (g.2 (30 + i)))))) sz (0 + 0 + 0) (0 + 0 + 0) 153 [(0, .ref a)] [] := by
      intro hi9
      have hW9 : cW n sg q = i := hfd
      refine x_aload_n 0 154 C0 dX2_readCommand_153 rfl rfl rfl ?_
      refine x_callV 157 C0 (e_X2_readChest l hl g _ _ a _ _ _ _ (xup_s _ _ _) ((xup_n (by omega)).trans hs) hA hT1 hv2 (c1 n sg q) hp1 hq61) dX2_readCommand_154 rfl mC_X2_readChest mM_X2_56 mI_X2_readChest mV_X2_readChest mN_X2 yd_X2_readChest rfl rfl ⟨Nat.le_of_ble_eq_true rfl, Nat.le_of_ble_eq_true rfl⟩ (xup_s _ _ _) rfl rfl rfl rfl (Nat.le_of_ble_eq_true rfl) ⟨Nat.le_of_ble_eq_true rfl, Nat.le_of_ble_eq_true rfl⟩ (fun _ _ _ q => False.elim q) (fun r w1 sz1 hz hP => ?_)
      obtain ⟨rfl, t3, rfl, hT3, hk3, hQ3⟩ := hP
      rcases hQ3 with ⟨hc3, rfl, hp3, hv3⟩ | ⟨hc3, rfl, hp3⟩
      · have hq63 : qN n sg (c1 n sg q) ≤ 60 := tOk_q hT3 hp3 (by have := qN_le n sg ((c1 n sg q)); omega)
        refine x_w (xup_2 _ _ _ _) ?_
        refine x_st (st1 := [.int 1]) rfl ?_
        exact x_ireturn C0 dX2_readCommand_157 rfl rfl (Nat.le_of_ble_eq_true rfl) (Nat.le_of_ble_eq_true rfl) ⟨rfl, _, _, rfl, hT3, hv2, cr_yes (cr_n1 (by omega) (by omega) (by omega) (by omega) hc3) hp3 ⟨by rw [hW9], by omega, fun _ _ => hv3, fun z => absurd hW9 (by omega), fun z => absurd hW9 (by omega), fun z => absurd hW9 (by omega)⟩⟩
      · have hq63 : (c1 n sg q) ≤ 60 := tOk_q hT3 hp3 (by omega)
        refine x_w (xup_2 _ _ _ _) ?_
        refine x_st (st1 := [.int 0]) rfl ?_
        exact x_ireturn C0 dX2_readCommand_157 rfl rfl (Nat.le_of_ble_eq_true rfl) (Nat.le_of_ble_eq_true rfl) ⟨rfl, _, _, rfl, hT3, hv2, cr_no (cr_n0 (by omega) (by omega) hc3) hp3⟩
    have sw79 : (i = 1) → xV p l e ({ frames := 7, cells := 0, slots := 0, locals := 148 }) s m args below meth cD (xQ g below (fun r w1 sz1 => sz = sz1 ∧ ∃ tt' vb', w1 = xup w a (.inr (4, txtL a tt' vb')) ∧ tOk n tt' ∧ vbOk g vb' ∧ r = some (.int (bi (cRes n sg q).1)) ∧ tt' 1 = nI (cRes n sg q).2 ∧ ((cRes n sg q).1 = true → cArg g n sg q vb' tt')) (fun _ _ _ => False) args s 0 0) g 1 (xup w a (.inr (4, txtL a t1 (some (g.2 (30 + i)))))) sz (0 + 0 + 0) (0 + 0 + 0) 79 [(0, .ref a)] [] := by
      intro hi9
      have hW9 : cW n sg q = i := hfd
      refine x_aload_n 0 80 C0 dX2_readCommand_79 rfl rfl rfl ?_
      refine x_callV 83 C0 (e_X2_readChest l hl g _ _ a _ _ _ _ (xup_s _ _ _) ((xup_n (by omega)).trans hs) hA hT1 hv2 (c1 n sg q) hp1 hq61) dX2_readCommand_80 rfl mC_X2_readChest mM_X2_56 mI_X2_readChest mV_X2_readChest mN_X2 yd_X2_readChest rfl rfl ⟨Nat.le_of_ble_eq_true rfl, Nat.le_of_ble_eq_true rfl⟩ (xup_s _ _ _) rfl rfl rfl rfl (Nat.le_of_ble_eq_true rfl) ⟨Nat.le_of_ble_eq_true rfl, Nat.le_of_ble_eq_true rfl⟩ (fun _ _ _ q => False.elim q) (fun r w1 sz1 hz hP => ?_)
      obtain ⟨rfl, t4, rfl, hT4, hk4, hQ4⟩ := hP
      rcases hQ4 with ⟨hc4, rfl, hp4, hv4⟩ | ⟨hc4, rfl, hp4⟩
      · have hq64 : qN n sg (c1 n sg q) ≤ 60 := tOk_q hT4 hp4 (by have := qN_le n sg ((c1 n sg q)); omega)
        refine x_w (xup_2 _ _ _ _) ?_
        refine x_st (st1 := [.int 1]) rfl ?_
        refine x_if_eq 122 86 C0 dX2_readCommand_83 rfl (by decide) (fun q => False.elim (by revert q; decide)) (fun _ => ?_)
        refine x_aload_n 0 87 C0 dX2_readCommand_86 rfl rfl rfl ?_
        refine x_bipush (v := 32) 89 C0 dX2_readCommand_87 rfl (by decide) ?_
        refine x_callV 92 C0 (e_X2_readSign l hl g _ _ a _ _ _ _ (xup_s _ _ _) ((xup_n (by omega)).trans hs) hA hT4 hv2 (qN n sg (c1 n sg q)) hp4 hq64 32 (by decide)) dX2_readCommand_89 rfl mC_X2_readSign mM_X2_29 mI_X2_readSign mV_X2_readSign mN_X2 yd_X2_readSign rfl rfl ⟨Nat.le_of_ble_eq_true rfl, Nat.le_of_ble_eq_true rfl⟩ (xup_s _ _ _) rfl rfl rfl rfl (Nat.le_of_ble_eq_true rfl) ⟨Nat.le_of_ble_eq_true rfl, Nat.le_of_ble_eq_true rfl⟩ (fun _ _ _ q => False.elim q) (fun r w1 sz1 hz hP => ?_)
        obtain ⟨rfl, t6, rfl, hT6, hk6, hQ6⟩ := hP
        rcases hQ6 with ⟨hc6, rfl, hp6⟩ | ⟨hc6, rfl, hp6⟩
        · have hq66 : (qN n sg (c1 n sg q)) + 1 ≤ 60 := tOk_q hT6 hp6 (by omega)
          refine x_w (xup_2 _ _ _ _) ?_
          refine x_st (st1 := [.int 1]) rfl ?_
          refine x_if_eq 122 95 C0 dX2_readCommand_92 rfl (by decide) (fun q => False.elim (by revert q; decide)) (fun _ => ?_)
          refine x_aload_n 0 96 C0 dX2_readCommand_95 rfl rfl rfl ?_
          refine x_callV 99 C0 (e_X2_readLeaf l hl g _ _ a _ _ _ _ (xup_s _ _ _) ((xup_n (by omega)).trans hs) hA hT6 hv2 ((qN n sg (c1 n sg q)) + 1) hp6 hq66) dX2_readCommand_96 rfl mC_X2_readLeaf mM_X2_59 mI_X2_readLeaf mV_X2_readLeaf mN_X2 yd_X2_readLeaf rfl rfl ⟨Nat.le_of_ble_eq_true rfl, Nat.le_of_ble_eq_true rfl⟩ (xup_s _ _ _) rfl rfl rfl rfl (Nat.le_of_ble_eq_true rfl) ⟨Nat.le_of_ble_eq_true rfl, Nat.le_of_ble_eq_true rfl⟩ (fun _ _ _ q => False.elim q) (fun r w1 sz1 hz hP => ?_)
          obtain ⟨rfl, t8, rfl, hT8, hk8, hQ8⟩ := hP
          rcases hQ8 with ⟨hc8, hd8, rfl, hp8, hg8, ik8, hik8, hf8, hv8⟩ | ⟨hc8, hd8, hf8, rfl, hp8⟩ | ⟨hc8, hd8, rfl, hp8⟩ | ⟨hc8, rfl, hp8⟩
          · have hq68 : pwd n sg (((qN n sg (c1 n sg q)) + 1) + 1 + 1) 8 3 ≤ 60 := tOk_q hT8 hp8 (by have := pwd_le n sg (((qN n sg (c1 n sg q)) + 1) + 1 + 1) 8 3; omega)
            refine x_w (xup_2 _ _ _ _) ?_
            refine x_st (st1 := [.int 1]) rfl ?_
            refine x_if_eq 122 102 C0 dX2_readCommand_99 rfl (by decide) (fun q => False.elim (by revert q; decide)) (fun _ => ?_)
            refine x_aload_n 0 103 C0 dX2_readCommand_102 rfl rfl rfl ?_
            refine x_bipush (v := 32) 105 C0 dX2_readCommand_103 rfl (by decide) ?_
            refine x_callV 108 C0 (e_X2_readSign l hl g _ _ a _ _ _ _ (xup_s _ _ _) ((xup_n (by omega)).trans hs) hA hT8 hv2 (pwd n sg (((qN n sg (c1 n sg q)) + 1) + 1 + 1) 8 3) hp8 hq68 32 (by decide)) dX2_readCommand_105 rfl mC_X2_readSign mM_X2_29 mI_X2_readSign mV_X2_readSign mN_X2 yd_X2_readSign rfl rfl ⟨Nat.le_of_ble_eq_true rfl, Nat.le_of_ble_eq_true rfl⟩ (xup_s _ _ _) rfl rfl rfl rfl (Nat.le_of_ble_eq_true rfl) ⟨Nat.le_of_ble_eq_true rfl, Nat.le_of_ble_eq_true rfl⟩ (fun _ _ _ q => False.elim q) (fun r w1 sz1 hz hP => ?_)
            obtain ⟨rfl, t10, rfl, hT10, hk10, hQ10⟩ := hP
            rcases hQ10 with ⟨hc10, rfl, hp10⟩ | ⟨hc10, rfl, hp10⟩
            · have hq610 : (pwd n sg (((qN n sg (c1 n sg q)) + 1) + 1 + 1) 8 3) + 1 ≤ 60 := tOk_q hT10 hp10 (by omega)
              refine x_w (xup_2 _ _ _ _) ?_
              refine x_st (st1 := [.int 1]) rfl ?_
              refine x_if_eq 122 111 C0 dX2_readCommand_108 rfl (by decide) (fun q => False.elim (by revert q; decide)) (fun _ => ?_)
              refine x_aload_n 0 112 C0 dX2_readCommand_111 rfl rfl rfl ?_
              refine x_callV 115 C0 (e_X2_readManyAsNumber l hl g _ _ a _ _ _ _ (xup_s _ _ _) ((xup_n (by omega)).trans hs) hA hT10 hv2 ((pwd n sg (((qN n sg (c1 n sg q)) + 1) + 1 + 1) 8 3) + 1) hp10 hq610) dX2_readCommand_112 rfl mC_X2_readManyAsNumber mM_X2_53 mI_X2_readManyAsNumber mV_X2_readManyAsNumber mN_X2 yd_X2_readManyAsNumber rfl rfl ⟨Nat.le_of_ble_eq_true rfl, Nat.le_of_ble_eq_true rfl⟩ (xup_s _ _ _) rfl rfl rfl rfl (Nat.le_of_ble_eq_true rfl) ⟨Nat.le_of_ble_eq_true rfl, Nat.le_of_ble_eq_true rfl⟩ (fun _ _ _ q => False.elim q) (fun r w1 sz1 hz hP => ?_)
              obtain ⟨rfl, t12, rfl, hT12, hk12, hQ12⟩ := hP
              rcases hQ12 with ⟨hc12, rfl, hp12, hv12⟩ | ⟨hc12, rfl, hp12⟩
              · have hq612 : qN n sg ((pwd n sg (((qN n sg (c1 n sg q)) + 1) + 1 + 1) 8 3) + 1) ≤ 60 := tOk_q hT12 hp12 (by have := qN_le n sg (((pwd n sg (((qN n sg (c1 n sg q)) + 1) + 1 + 1) 8 3) + 1)); omega)
                refine x_w (xup_2 _ _ _ _) ?_
                refine x_st (st1 := [.int 1]) rfl ?_
                refine x_if_eq 122 118 C0 dX2_readCommand_115 rfl (by decide) (fun q => False.elim (by revert q; decide)) (fun _ => ?_)
                refine x_iconst (v := 1) 119 C0 dX2_readCommand_118 rfl (by decide) ?_
                refine x_goto 123 C0 dX2_readCommand_119 (by decide) ?_
                exact x_ireturn C0 dX2_readCommand_123 rfl rfl (Nat.le_of_ble_eq_true rfl) (Nat.le_of_ble_eq_true rfl) ⟨rfl, _, _, rfl, hT12, hv2, cr_yes (cr_f1 (by omega) hc4 hc6 hc8 hd8 (fun z => by have z2 : fwd n sg (c5 n sg q) 8 3 = 8 + ik8 := hf8; have z3 : fwd n sg (c5 n sg q) 8 3 = 11 := z; have := hik8; omega) hc10 hc12) hp12 ⟨by rw [hW9], by omega, fun _ _ => ((hk12 3 (by decide)).trans ((hk10 3 (by decide)).trans ((hk8 3 (by decide)).trans ((hk6 3 (by decide)).trans hv4)))), fun z => absurd hW9 (by omega), fun z => absurd hW9 (by omega), fun _ => ⟨((hk12 4 (by decide)).trans ((hk10 4 (by decide)).trans hg8)), hv12, ik8, hik8, hf8, ((hk12 5 (by decide)).trans ((hk10 5 (by decide)).trans hv8))⟩⟩⟩
              · have hq612 : ((pwd n sg (((qN n sg (c1 n sg q)) + 1) + 1 + 1) 8 3) + 1) ≤ 60 := tOk_q hT12 hp12 (by omega)
                refine x_w (xup_2 _ _ _ _) ?_
                refine x_st (st1 := [.int 0]) rfl ?_
                refine x_if_eq 122 118 C0 dX2_readCommand_115 rfl (by decide) (fun _ => ?_) (fun q => False.elim (by revert q; decide))
                refine x_iconst (v := 0) 123 C0 dX2_readCommand_122 rfl (by decide) ?_
                exact x_ireturn C0 dX2_readCommand_123 rfl rfl (Nat.le_of_ble_eq_true rfl) (Nat.le_of_ble_eq_true rfl) ⟨rfl, _, _, rfl, hT12, hv2, cr_no (cr_m0 (by omega) hc4 hc6 hc8 hd8 (fun z => by have z2 : fwd n sg (c5 n sg q) 8 3 = 8 + ik8 := hf8; have z3 : fwd n sg (c5 n sg q) 8 3 = 11 := z; have := hik8; omega) hc10 hc12) hp12⟩
            · have hq610 : (pwd n sg (((qN n sg (c1 n sg q)) + 1) + 1 + 1) 8 3) ≤ 60 := tOk_q hT10 hp10 (by omega)
              refine x_w (xup_2 _ _ _ _) ?_
              refine x_st (st1 := [.int 0]) rfl ?_
              refine x_if_eq 122 111 C0 dX2_readCommand_108 rfl (by decide) (fun _ => ?_) (fun q => False.elim (by revert q; decide))
              refine x_iconst (v := 0) 123 C0 dX2_readCommand_122 rfl (by decide) ?_
              exact x_ireturn C0 dX2_readCommand_123 rfl rfl (Nat.le_of_ble_eq_true rfl) (Nat.le_of_ble_eq_true rfl) ⟨rfl, _, _, rfl, hT10, hv2, cr_no (cr_e0 (by omega) hc4 hc6 hc8 hd8 (fun z => by have z2 : fwd n sg (c5 n sg q) 8 3 = 8 + ik8 := hf8; have z3 : fwd n sg (c5 n sg q) 8 3 = 11 := z; have := hik8; omega) hc10) hp10⟩
          · have hq68 : pwd n sg (((qN n sg (c1 n sg q)) + 1) + 1 + 1) 8 3 ≤ 60 := tOk_q hT8 hp8 (by have := pwd_le n sg (((qN n sg (c1 n sg q)) + 1) + 1 + 1) 8 3; omega)
            refine x_w (xup_2 _ _ _ _) ?_
            refine x_st (st1 := [.int 0]) rfl ?_
            refine x_if_eq 122 102 C0 dX2_readCommand_99 rfl (by decide) (fun _ => ?_) (fun q => False.elim (by revert q; decide))
            refine x_iconst (v := 0) 123 C0 dX2_readCommand_122 rfl (by decide) ?_
            exact x_ireturn C0 dX2_readCommand_123 rfl rfl (Nat.le_of_ble_eq_true rfl) (Nat.le_of_ble_eq_true rfl) ⟨rfl, _, _, rfl, hT8, hv2, cr_no (cr_k0 (by omega) hc4 hc6 hc8 hd8 hf8) hp8⟩
          · have hq68 : ((qN n sg (c1 n sg q)) + 1) + 1 ≤ 60 := tOk_q hT8 hp8 (by omega)
            refine x_w (xup_2 _ _ _ _) ?_
            refine x_st (st1 := [.int 0]) rfl ?_
            refine x_if_eq 122 102 C0 dX2_readCommand_99 rfl (by decide) (fun _ => ?_) (fun q => False.elim (by revert q; decide))
            refine x_iconst (v := 0) 123 C0 dX2_readCommand_122 rfl (by decide) ?_
            exact x_ireturn C0 dX2_readCommand_123 rfl rfl (Nat.le_of_ble_eq_true rfl) (Nat.le_of_ble_eq_true rfl) ⟨rfl, _, _, rfl, hT8, hv2, cr_no (cr_p0 (by omega) hc4 hc6 hc8 hd8) hp8⟩
          · have hq68 : ((qN n sg (c1 n sg q)) + 1) ≤ 60 := tOk_q hT8 hp8 (by omega)
            refine x_w (xup_2 _ _ _ _) ?_
            refine x_st (st1 := [.int 0]) rfl ?_
            refine x_if_eq 122 102 C0 dX2_readCommand_99 rfl (by decide) (fun _ => ?_) (fun q => False.elim (by revert q; decide))
            refine x_iconst (v := 0) 123 C0 dX2_readCommand_122 rfl (by decide) ?_
            exact x_ireturn C0 dX2_readCommand_123 rfl rfl (Nat.le_of_ble_eq_true rfl) (Nat.le_of_ble_eq_true rfl) ⟨rfl, _, _, rfl, hT8, hv2, cr_no (cr_d0 (by omega) hc4 hc6 hc8) hp8⟩
        · have hq66 : (qN n sg (c1 n sg q)) ≤ 60 := tOk_q hT6 hp6 (by omega)
          refine x_w (xup_2 _ _ _ _) ?_
          refine x_st (st1 := [.int 0]) rfl ?_
          refine x_if_eq 122 95 C0 dX2_readCommand_92 rfl (by decide) (fun _ => ?_) (fun q => False.elim (by revert q; decide))
          refine x_iconst (v := 0) 123 C0 dX2_readCommand_122 rfl (by decide) ?_
          exact x_ireturn C0 dX2_readCommand_123 rfl rfl (Nat.le_of_ble_eq_true rfl) (Nat.le_of_ble_eq_true rfl) ⟨rfl, _, _, rfl, hT6, hv2, cr_no (cr_b0 (by omega) hc4 hc6) hp6⟩
      · have hq64 : (c1 n sg q) ≤ 60 := tOk_q hT4 hp4 (by omega)
        refine x_w (xup_2 _ _ _ _) ?_
        refine x_st (st1 := [.int 0]) rfl ?_
        refine x_if_eq 122 86 C0 dX2_readCommand_83 rfl (by decide) (fun _ => ?_) (fun q => False.elim (by revert q; decide))
        refine x_iconst (v := 0) 123 C0 dX2_readCommand_122 rfl (by decide) ?_
        exact x_ireturn C0 dX2_readCommand_123 rfl rfl (Nat.le_of_ble_eq_true rfl) (Nat.le_of_ble_eq_true rfl) ⟨rfl, _, _, rfl, hT4, hv2, cr_no (cr_n0 (by omega) (by omega) hc4) hp4⟩
    have sw124 : (i = 2) → xV p l e ({ frames := 7, cells := 0, slots := 0, locals := 148 }) s m args below meth cD (xQ g below (fun r w1 sz1 => sz = sz1 ∧ ∃ tt' vb', w1 = xup w a (.inr (4, txtL a tt' vb')) ∧ tOk n tt' ∧ vbOk g vb' ∧ r = some (.int (bi (cRes n sg q).1)) ∧ tt' 1 = nI (cRes n sg q).2 ∧ ((cRes n sg q).1 = true → cArg g n sg q vb' tt')) (fun _ _ _ => False) args s 0 0) g 1 (xup w a (.inr (4, txtL a t1 (some (g.2 (30 + i)))))) sz (0 + 0 + 0) (0 + 0 + 0) 124 [(0, .ref a)] [] := by
      intro hi9
      have hW9 : cW n sg q = i := hfd
      refine x_aload_n 0 125 C0 dX2_readCommand_124 rfl rfl rfl ?_
      refine x_callV 128 C0 (e_X2_readChest l hl g _ _ a _ _ _ _ (xup_s _ _ _) ((xup_n (by omega)).trans hs) hA hT1 hv2 (c1 n sg q) hp1 hq61) dX2_readCommand_125 rfl mC_X2_readChest mM_X2_56 mI_X2_readChest mV_X2_readChest mN_X2 yd_X2_readChest rfl rfl ⟨Nat.le_of_ble_eq_true rfl, Nat.le_of_ble_eq_true rfl⟩ (xup_s _ _ _) rfl rfl rfl rfl (Nat.le_of_ble_eq_true rfl) ⟨Nat.le_of_ble_eq_true rfl, Nat.le_of_ble_eq_true rfl⟩ (fun _ _ _ q => False.elim q) (fun r w1 sz1 hz hP => ?_)
      obtain ⟨rfl, t21, rfl, hT21, hk21, hQ21⟩ := hP
      rcases hQ21 with ⟨hc21, rfl, hp21, hv21⟩ | ⟨hc21, rfl, hp21⟩
      · have hq621 : qN n sg (c1 n sg q) ≤ 60 := tOk_q hT21 hp21 (by have := qN_le n sg ((c1 n sg q)); omega)
        refine x_w (xup_2 _ _ _ _) ?_
        refine x_st (st1 := [.int 1]) rfl ?_
        refine x_if_eq 151 131 C0 dX2_readCommand_128 rfl (by decide) (fun q => False.elim (by revert q; decide)) (fun _ => ?_)
        refine x_aload_n 0 132 C0 dX2_readCommand_131 rfl rfl rfl ?_
        refine x_bipush (v := 32) 134 C0 dX2_readCommand_132 rfl (by decide) ?_
        refine x_callV 137 C0 (e_X2_readSign l hl g _ _ a _ _ _ _ (xup_s _ _ _) ((xup_n (by omega)).trans hs) hA hT21 hv2 (qN n sg (c1 n sg q)) hp21 hq621 32 (by decide)) dX2_readCommand_134 rfl mC_X2_readSign mM_X2_29 mI_X2_readSign mV_X2_readSign mN_X2 yd_X2_readSign rfl rfl ⟨Nat.le_of_ble_eq_true rfl, Nat.le_of_ble_eq_true rfl⟩ (xup_s _ _ _) rfl rfl rfl rfl (Nat.le_of_ble_eq_true rfl) ⟨Nat.le_of_ble_eq_true rfl, Nat.le_of_ble_eq_true rfl⟩ (fun _ _ _ q => False.elim q) (fun r w1 sz1 hz hP => ?_)
        obtain ⟨rfl, t23, rfl, hT23, hk23, hQ23⟩ := hP
        rcases hQ23 with ⟨hc23, rfl, hp23⟩ | ⟨hc23, rfl, hp23⟩
        · have hq623 : (qN n sg (c1 n sg q)) + 1 ≤ 60 := tOk_q hT23 hp23 (by omega)
          refine x_w (xup_2 _ _ _ _) ?_
          refine x_st (st1 := [.int 1]) rfl ?_
          refine x_if_eq 151 140 C0 dX2_readCommand_137 rfl (by decide) (fun q => False.elim (by revert q; decide)) (fun _ => ?_)
          refine x_aload_n 0 141 C0 dX2_readCommand_140 rfl rfl rfl ?_
          refine x_callV 144 C0 (e_X2_readManyAsDigit l hl g _ _ a _ _ _ _ (xup_s _ _ _) ((xup_n (by omega)).trans hs) hA hT23 hv2 ((qN n sg (c1 n sg q)) + 1) hp23 hq623) dX2_readCommand_141 rfl mC_X2_readManyAsDigit mM_X2_62 mI_X2_readManyAsDigit mV_X2_readManyAsDigit mN_X2 yd_X2_readManyAsDigit rfl rfl ⟨Nat.le_of_ble_eq_true rfl, Nat.le_of_ble_eq_true rfl⟩ (xup_s _ _ _) rfl rfl rfl rfl (Nat.le_of_ble_eq_true rfl) ⟨Nat.le_of_ble_eq_true rfl, Nat.le_of_ble_eq_true rfl⟩ (fun _ _ _ q => False.elim q) (fun r w1 sz1 hz hP => ?_)
          obtain ⟨rfl, t25, rfl, hT25, hk25, hQ25⟩ := hP
          rcases hQ25 with ⟨hc25, rfl, hp25, hv25⟩ | ⟨hc25, rfl, hp25⟩
          · have hq625 : ((qN n sg (c1 n sg q)) + 1) + 1 ≤ 60 := tOk_q hT25 hp25 (by omega)
            refine x_w (xup_2 _ _ _ _) ?_
            refine x_st (st1 := [.int 1]) rfl ?_
            refine x_if_eq 151 147 C0 dX2_readCommand_144 rfl (by decide) (fun q => False.elim (by revert q; decide)) (fun _ => ?_)
            refine x_iconst (v := 1) 148 C0 dX2_readCommand_147 rfl (by decide) ?_
            refine x_goto 152 C0 dX2_readCommand_148 (by decide) ?_
            exact x_ireturn C0 dX2_readCommand_152 rfl rfl (Nat.le_of_ble_eq_true rfl) (Nat.le_of_ble_eq_true rfl) ⟨rfl, _, _, rfl, hT25, hv2, cr_yes (cr_s1 (by omega) hc21 hc23 hc25) hp25 ⟨by rw [hW9], by omega, fun _ _ => ((hk25 3 (by decide)).trans ((hk23 3 (by decide)).trans hv21)), fun z => absurd hW9 (by omega), fun _ => hv25, fun z => absurd hW9 (by omega)⟩⟩
          · have hq625 : ((qN n sg (c1 n sg q)) + 1) ≤ 60 := tOk_q hT25 hp25 (by omega)
            refine x_w (xup_2 _ _ _ _) ?_
            refine x_st (st1 := [.int 0]) rfl ?_
            refine x_if_eq 151 147 C0 dX2_readCommand_144 rfl (by decide) (fun _ => ?_) (fun q => False.elim (by revert q; decide))
            refine x_iconst (v := 0) 152 C0 dX2_readCommand_151 rfl (by decide) ?_
            exact x_ireturn C0 dX2_readCommand_152 rfl rfl (Nat.le_of_ble_eq_true rfl) (Nat.le_of_ble_eq_true rfl) ⟨rfl, _, _, rfl, hT25, hv2, cr_no (cr_d0 (by omega) hc21 hc23 hc25) hp25⟩
        · have hq623 : (qN n sg (c1 n sg q)) ≤ 60 := tOk_q hT23 hp23 (by omega)
          refine x_w (xup_2 _ _ _ _) ?_
          refine x_st (st1 := [.int 0]) rfl ?_
          refine x_if_eq 151 140 C0 dX2_readCommand_137 rfl (by decide) (fun _ => ?_) (fun q => False.elim (by revert q; decide))
          refine x_iconst (v := 0) 152 C0 dX2_readCommand_151 rfl (by decide) ?_
          exact x_ireturn C0 dX2_readCommand_152 rfl rfl (Nat.le_of_ble_eq_true rfl) (Nat.le_of_ble_eq_true rfl) ⟨rfl, _, _, rfl, hT23, hv2, cr_no (cr_b0 (by omega) hc21 hc23) hp23⟩
      · have hq621 : (c1 n sg q) ≤ 60 := tOk_q hT21 hp21 (by omega)
        refine x_w (xup_2 _ _ _ _) ?_
        refine x_st (st1 := [.int 0]) rfl ?_
        refine x_if_eq 151 131 C0 dX2_readCommand_128 rfl (by decide) (fun _ => ?_) (fun q => False.elim (by revert q; decide))
        refine x_iconst (v := 0) 152 C0 dX2_readCommand_151 rfl (by decide) ?_
        exact x_ireturn C0 dX2_readCommand_152 rfl rfl (Nat.le_of_ble_eq_true rfl) (Nat.le_of_ble_eq_true rfl) ⟨rfl, _, _, rfl, hT21, hv2, cr_no (cr_n0 (by omega) (by omega) hc21) hp21⟩
    have sw72 : (i = 6) → xV p l e ({ frames := 7, cells := 0, slots := 0, locals := 148 }) s m args below meth cD (xQ g below (fun r w1 sz1 => sz = sz1 ∧ ∃ tt' vb', w1 = xup w a (.inr (4, txtL a tt' vb')) ∧ tOk n tt' ∧ vbOk g vb' ∧ r = some (.int (bi (cRes n sg q).1)) ∧ tt' 1 = nI (cRes n sg q).2 ∧ ((cRes n sg q).1 = true → cArg g n sg q vb' tt')) (fun _ _ _ => False) args s 0 0) g 1 (xup w a (.inr (4, txtL a t1 (some (g.2 (30 + i)))))) sz (0 + 0 + 0) (0 + 0 + 0) 72 [(0, .ref a)] [] := by
      intro hi9
      have hW9 : cW n sg q = i := hfd
      refine x_iconst (v := 1) 73 C0 dX2_readCommand_72 rfl (by decide) ?_
      exact x_ireturn C0 dX2_readCommand_73 rfl rfl (Nat.le_of_ble_eq_true rfl) (Nat.le_of_ble_eq_true rfl) ⟨rfl, _, _, rfl, hT1, hv2, cr_yes (cr_sail (by omega)) hp1 ⟨by rw [hW9], by omega, fun z1 _ => absurd (by omega) z1, fun z => absurd hW9 (by omega), fun z => absurd hW9 (by omega), fun z => absurd hW9 (by omega)⟩⟩
    have sw74 : (i = 7) → xV p l e ({ frames := 7, cells := 0, slots := 0, locals := 148 }) s m args below meth cD (xQ g below (fun r w1 sz1 => sz = sz1 ∧ ∃ tt' vb', w1 = xup w a (.inr (4, txtL a tt' vb')) ∧ tOk n tt' ∧ vbOk g vb' ∧ r = some (.int (bi (cRes n sg q).1)) ∧ tt' 1 = nI (cRes n sg q).2 ∧ ((cRes n sg q).1 = true → cArg g n sg q vb' tt')) (fun _ _ _ => False) args s 0 0) g 1 (xup w a (.inr (4, txtL a t1 (some (g.2 (30 + i)))))) sz (0 + 0 + 0) (0 + 0 + 0) 74 [(0, .ref a)] [] := by
      intro hi9
      have hW9 : cW n sg q = i := hfd
      refine x_aload_n 0 75 C0 dX2_readCommand_74 rfl rfl rfl ?_
      refine x_callV 78 C0 (e_X2_readManyAsNumber l hl g _ _ a _ _ _ _ (xup_s _ _ _) ((xup_n (by omega)).trans hs) hA hT1 hv2 (c1 n sg q) hp1 hq61) dX2_readCommand_75 rfl mC_X2_readManyAsNumber mM_X2_53 mI_X2_readManyAsNumber mV_X2_readManyAsNumber mN_X2 yd_X2_readManyAsNumber rfl rfl ⟨Nat.le_of_ble_eq_true rfl, Nat.le_of_ble_eq_true rfl⟩ (xup_s _ _ _) rfl rfl rfl rfl (Nat.le_of_ble_eq_true rfl) ⟨Nat.le_of_ble_eq_true rfl, Nat.le_of_ble_eq_true rfl⟩ (fun _ _ _ q => False.elim q) (fun r w1 sz1 hz hP => ?_)
      obtain ⟨rfl, t30, rfl, hT30, hk30, hQ30⟩ := hP
      rcases hQ30 with ⟨hc30, rfl, hp30, hv30⟩ | ⟨hc30, rfl, hp30⟩
      · have hq630 : qN n sg (c1 n sg q) ≤ 60 := tOk_q hT30 hp30 (by have := qN_le n sg ((c1 n sg q)); omega)
        refine x_w (xup_2 _ _ _ _) ?_
        refine x_st (st1 := [.int 1]) rfl ?_
        exact x_ireturn C0 dX2_readCommand_78 rfl rfl (Nat.le_of_ble_eq_true rfl) (Nat.le_of_ble_eq_true rfl) ⟨rfl, _, _, rfl, hT30, hv2, cr_yes (cr_n1 (by omega) (by omega) (by omega) (by omega) hc30) hp30 ⟨by rw [hW9], by omega, fun _ z2 => absurd (by omega) z2, fun _ => hv30, fun z => absurd hW9 (by omega), fun z => absurd hW9 (by omega)⟩⟩
      · have hq630 : (c1 n sg q) ≤ 60 := tOk_q hT30 hp30 (by omega)
        refine x_w (xup_2 _ _ _ _) ?_
        refine x_st (st1 := [.int 0]) rfl ?_
        exact x_ireturn C0 dX2_readCommand_78 rfl rfl (Nat.le_of_ble_eq_true rfl) (Nat.le_of_ble_eq_true rfl) ⟨rfl, _, _, rfl, hT30, hv2, cr_no (cr_n0 (by omega) (by omega) hc30) hp30⟩
    rcases hcase with hc153 | hc79 | hc124 | hc72 | hc74
    · have k1 := sw153 hc153
      rcases hc153 with rfl | rfl | rfl | rfl
      · exact x_tabOut 153 C0 (x := nI (0 + 1)) dX2_readCommand_28 (by decide) (by decide) k1
      · exact x_tabIn 153 C0 (x := nI (3 + 1)) dX2_readCommand_28 (by decide) (by decide) rfl (by decide) k1
      · exact x_tabIn 153 C0 (x := nI (4 + 1)) dX2_readCommand_28 (by decide) (by decide) rfl (by decide) k1
      · exact x_tabIn 153 C0 (x := nI (5 + 1)) dX2_readCommand_28 (by decide) (by decide) rfl (by decide) k1
    · have k1 := sw79 hc79
      subst hc79
      exact x_tabIn 79 C0 (x := nI (1 + 1)) dX2_readCommand_28 (by decide) (by decide) rfl (by decide) k1
    · have k1 := sw124 hc124
      subst hc124
      exact x_tabIn 124 C0 (x := nI (2 + 1)) dX2_readCommand_28 (by decide) (by decide) rfl (by decide) k1
    · have k1 := sw72 hc72
      subst hc72
      exact x_tabIn 72 C0 (x := nI (6 + 1)) dX2_readCommand_28 (by decide) (by decide) rfl (by decide) k1
    · have k1 := sw74 hc74
      subst hc74
      exact x_tabIn 74 C0 (x := nI (7 + 1)) dX2_readCommand_28 (by decide) (by decide) rfl (by decide) k1
  · have hq61 : c1 n sg q ≤ 60 := tOk_q hT1 hp1 (by have := pwd_le n sg q 0 8; unfold c1; omega)
    refine x_st (st1 := [.null, .ref a]) rfl ?_
    refine x_putf 4 8 C0 dX2_readCommand_5 rfl (xup_s _ _ _) hA rfl (by decide) inX2 tyX2_ok nmX2 mF_X2_37 rfl rfl rfl rfl (Nat.le_of_ble_eq_true rfl) ?_
    refine x_w (w1 := (xup w a (.inr (4, txtL a t1 none)))) (xup_2 _ _ _ _) ?_
    have hv31 : vbOk g none := (Or.inl rfl)
    refine x_aload_n 0 9 C0 dX2_readCommand_8 rfl rfl rfl ?_
    refine x_getf (v := .null) 4 12 C0 dX2_readCommand_9 rfl (xup_s _ _ _) rfl (by decide) inX2 mF_X2_37 rfl ?_
    refine x_ifnonnullN 15 C0 dX2_readCommand_12 rfl ?_
    refine x_iconst (v := 0) 16 C0 dX2_readCommand_15 rfl (by decide) ?_
    exact x_ireturn C0 dX2_readCommand_16 rfl rfl (Nat.le_of_ble_eq_true rfl) (Nat.le_of_ble_eq_true rfl) ⟨rfl, _, _, rfl, hT1, hv31, cr_no (cr_0 hfd) hp1⟩

