/-! ALIKE: a house of the class beside a row of the reference: the numbers, and what the labels say -/
def alk (x v : Nat → Int32) : Prop := (∀ q, q < 28 → x q = v q) ∧ (∃ n : Nat, n ≤ 20 ∧ x 3 = nI n ∧ (∀ k, k < n → ∀ j, j < 8 → x (28 + 9 * k + j) = v (28 + 9 * k + j)) ∧ ∀ k, n ≤ k → k < 20 → ∀ j, j < 8 → x (28 + 9 * k + j) = blankC j) ∧ ∀ k, k < 20 → (∃ d : Nat, d ≤ 20 ∧ x (28 + 9 * k + 6) = nI d) ∧ (nI k < x 3 → ¬ x (28 + 9 * k + 7) = -1)
section ALK
variable {x x' v v' t t' : Nat → Int32} {k n q : Nat} {z : Int32} {r : Option Value}
theorem alk.cong (h : alk x v) (he : ∀ q, q < 208 → x' q = x q) : alk x' v := by
  obtain ⟨h1, ⟨n, hn, e3, h2, h3⟩, h4⟩ := h
  refine ⟨fun q hq => (he q (by omega)).trans (h1 q hq), ⟨n, hn, (he 3 (by omega)).trans e3, fun k hk j hj => (he _ (by omega)).trans (h2 k hk j hj), fun k hk h20 j hj => (he _ (by omega)).trans (h3 k hk h20 j hj)⟩, fun k hk => ?_⟩
  obtain ⟨⟨d, hd, e⟩, hw⟩ := h4 k hk
  exact ⟨⟨d, hd, (he _ (by omega)).trans e⟩, fun q => by rw [he _ (by omega)]; exact hw (by rw [← he 3 (by omega)]; exact q)⟩
theorem alk.congV (h : alk x v) (he : ∀ q, q < 208 → v' q = v q) : alk x v' := by
  obtain ⟨h1, ⟨n, hn, e3, h2, h3⟩, h4⟩ := h
  exact ⟨fun q hq => (h1 q hq).trans (he q (by omega)).symm, ⟨n, hn, e3, fun k hk j hj => (h2 k hk j hj).trans (he _ (by omega)).symm, h3⟩, h4⟩
theorem alk.at (h : alk x v) (hq : q < 28) : v q = x q := (h.1 q hq).symm
theorem alk.num (h : alk x v) : ∃ n : Nat, n ≤ 20 ∧ x 3 = nI n := by
  obtain ⟨h1, ⟨n, hn, e3, h2, h3⟩, h4⟩ := h
  exact ⟨n, hn, e3⟩
theorem alk.row (h : alk x v) (hm : nI k < x 3) (hk : k < 20) {j : Nat} (hj : j < 8) : v (28 + 9 * k + j) = x (28 + 9 * k + j) := by
  obtain ⟨h1, ⟨n, hn, e3, h2, h3⟩, h4⟩ := h
  rw [e3] at hm
  exact (h2 k ((nI_ltI (by omega) (by omega)).mp hm) j hj).symm
theorem alk.lo (h : alk x v) (hq : q < 28) (h3 : q ≠ 3) : alk (upd x q z) (upd v q z) := by
  obtain ⟨h1, ⟨n, hn, e3, h2, h4⟩, h5⟩ := h
  refine ⟨fun p hp => ?_, ⟨n, hn, (if_neg (by omega)).trans e3, fun k hk j hj => ?_, fun k hk h20 j hj => (if_neg (by omega)).trans (h4 k hk h20 j hj)⟩, fun k hk => ?_⟩
  · unfold upd
    split
    · rfl
    · exact h1 p hp
  · exact (if_neg (by omega)).trans ((h2 k hk j hj).trans (if_neg (by omega)).symm)
  · obtain ⟨⟨d, hd, e⟩, hw⟩ := h5 k hk
    exact ⟨⟨d, hd, (if_neg (by omega)).trans e⟩, fun p => by rw [show upd x q z (28 + 9 * k + 7) = x (28 + 9 * k + 7) from if_neg (by omega)]; exact hw (by rw [show upd x q z 3 = x 3 from if_neg (by omega)] at p; exact p)⟩
theorem alk.ro (h : alk x v) (hm : nI k < x 3) (hk : k < 20) {j : Nat} (hj : j < 8) (h6 : j = 6 → ∃ d : Nat, d ≤ 20 ∧ z = nI d) (h7 : j = 7 → ¬ z = -1 := by first | (intro q; omega) | (intro _; decide)) : alk (upd x (28 + 9 * k + j) z) (upd v (28 + 9 * k + j) z) := by
  obtain ⟨h1, ⟨n, hn, e3, h2, h4⟩, h5⟩ := h
  rw [e3] at hm
  have hkn := (nI_ltI (by omega) (by omega)).mp hm
  refine ⟨fun p hp => (if_neg (by omega)).trans ((h1 p hp).trans (if_neg (by omega)).symm), ⟨n, hn, (if_neg (by omega)).trans e3, fun k2 hk2 j2 hj2 => ?_, fun k2 hk2 h20 j2 hj2 => (if_neg (by omega)).trans (h4 k2 hk2 h20 j2 hj2)⟩, fun k2 hk2 => ?_⟩
  · unfold upd
    split
    · rfl
    · exact h2 k2 hk2 j2 hj2
  · obtain ⟨⟨d0, hd0, ez0⟩, hw⟩ := h5 k2 hk2
    refine ⟨?_, fun p => ?_⟩
    · by_cases e : 28 + 9 * k2 + 6 = 28 + 9 * k + j
      · obtain ⟨d, hd, ez⟩ := h6 (by omega)
        exact ⟨d, hd, (if_pos e).trans ez⟩
      · exact ⟨d0, hd0, (if_neg e).trans ez0⟩
    · rw [show upd x (28 + 9 * k + j) z 3 = x 3 from if_neg (by omega)] at p
      by_cases e : 28 + 9 * k2 + 7 = 28 + 9 * k + j
      · rw [show upd x (28 + 9 * k + j) z (28 + 9 * k2 + 7) = z from if_pos e]
        exact h7 (by omega)
      · rw [show upd x (28 + 9 * k + j) z (28 + 9 * k2 + 7) = x (28 + 9 * k2 + 7) from if_neg e]
        exact hw p
theorem alk.lab (h : alk x v) : alk x (upd v (28 + 9 * k + 8) z) := by
  obtain ⟨h1, ⟨n, hn, e3, h2, h4⟩, h5⟩ := h
  exact ⟨fun p hp => (h1 p hp).trans (if_neg (by omega)).symm, ⟨n, hn, e3, fun k2 hk2 j2 hj2 => (h2 k2 hk2 j2 hj2).trans (if_neg (by omega)).symm, h4⟩, h5⟩
/-- what a label hangs on is as it was -/
def lks (x v x' v' : Nat → Int32) : Prop := x' 3 = x 3 ∧ ∀ k, k < 20 → (∀ j, 0 < j → j < 4 → x' (28 + 9 * k + j) = x (28 + 9 * k + j)) ∧ v' (28 + 9 * k + 8) = v (28 + 9 * k + 8)
theorem lks.rf : lks x v x v := ⟨rfl, fun _ _ => ⟨fun _ _ _ => rfl, rfl⟩⟩
theorem lks.cong {x2 v2 : Nat → Int32} (h : lks x v x' v') (hx : ∀ q, q < 208 → x2 q = x' q) (hv : ∀ q, q < 208 → v2 q = v' q) : lks x v x2 v2 := ⟨(hx 3 (by omega)).trans h.1, fun k hk => ⟨fun j h0 hj => (hx _ (by omega)).trans ((h.2 k hk).1 j h0 hj), (hv _ (by omega)).trans (h.2 k hk).2⟩⟩
theorem lks.tr {x2 v2 : Nat → Int32} (h : lks x v x' v') (h2 : lks x' v' x2 v2) : lks x v x2 v2 := ⟨h2.1.trans h.1, fun k hk => ⟨fun j h0 hj => ((h2.2 k hk).1 j h0 hj).trans ((h.2 k hk).1 j h0 hj), (h2.2 k hk).2.trans (h.2 k hk).2⟩⟩
/-- writes elsewhere -/
theorem lks.up (h : lks x v x' v') {i i2 : Nat} {z2 : Int32} (hi : (i < 28 ∧ i ≠ 3) ∨ ∃ k j, k < 20 ∧ (j = 0 ∨ (3 < j ∧ j < 8)) ∧ i = 28 + 9 * k + j) (hi2 : i2 < 28 ∨ ∃ k j, k < 20 ∧ j < 8 ∧ i2 = 28 + 9 * k + j) : lks x v (upd x' i z) (upd v' i2 z2) := by
  refine ⟨(if_neg ?_).trans h.1, fun k hk => ⟨fun j h0 hj => (if_neg ?_).trans ((h.2 k hk).1 j h0 hj), (if_neg ?_).trans (h.2 k hk).2⟩⟩
  · rcases hi with hi | ⟨k2, j2, h1, h2, h3⟩ <;> omega
  · rcases hi with hi | ⟨k2, j2, h1, h2, h3⟩ <;> omega
  · rcases hi2 with hi | ⟨k2, j2, h1, h2, h3⟩ <;> omega
def lbl1 (a : Nat) (f : Nat → Int32) (x v : Nat → Int32) (k : Nat) : Prop := (v (28 + 9 * k + 8) = 0 ∧ a = 0) ∨ ∃ da : Bool, v (28 + 9 * k + 8) = (if da = true then 2 else 1) ∧ 0 < x (28 + 9 * k + 3) ∧ a = labN (nat (x (28 + 9 * k + 2))) (nat (x (28 + 9 * k + 3))) da ∧ ∀ j, j < a → f j = labF (nat (x (28 + 9 * k + 1))) (nat (x (28 + 9 * k + 2))) (nat (x (28 + 9 * k + 3))) da j
/-- the labels: lengths and signs beside the reference's codes -/
def lbl (ln : Nat → Nat) (lf : Nat → Nat → Int32) (x v : Nat → Int32) : Prop := ∀ k, k < 20 → (nI k < x 3 → lbl1 (ln k) (lf k) x v k) ∧ (¬ nI k < x 3 → ln k = 0)
variable {ln : Nat → Nat} {lf : Nat → Nat → Int32}
theorem lbl.same (h : lbl ln lf x v) (hs : lks x v x' v') : lbl ln lf x' v' := by
  intro k hk
  obtain ⟨hr, h8⟩ := hs.2 k hk
  rw [hs.1]
  refine ⟨fun q => ?_, (h k hk).2⟩
  unfold lbl1
  rw [hr 1 (by omega) (by omega), hr 2 (by omega) (by omega), hr 3 (by omega) (by omega), h8]
  exact (h k hk).1 q
theorem labN_pos (ki po : Nat) (da : Bool) : labN ki po da ≠ 0 := by
  unfold labN labN2 labN1
  split <;> omega
theorem lbl.ne (h : lbl ln lf x v) (hm : nI k < x 3) (hk : k < 20) : ln k ≠ 0 ↔ ¬ v (28 + 9 * k + 8) = 0 := by
  rcases (h k hk).1 hm with ⟨h1, h2⟩ | ⟨da, h1, h2, h3, h4⟩
  · exact ⟨fun q => absurd h2 q, fun q => absurd h1 q⟩
  · refine ⟨fun _ => ?_, fun _ => by rw [h3]; exact labN_pos _ _ _⟩
    rw [h1]
    split <;> decide
theorem lbl.drop (h : lbl ln lf x v) (h3 : x' 3 = x 3) (h8 : v' (28 + 9 * k + 8) = 0) (ho : ∀ i, i < 20 → i ≠ k → (∀ j, 0 < j → j < 4 → x' (28 + 9 * i + j) = x (28 + 9 * i + j)) ∧ v' (28 + 9 * i + 8) = v (28 + 9 * i + 8)) : lbl (va_up ln k 0) lf x' v' := by
  intro i hi
  rw [h3]
  by_cases e : i = k
  · subst e
    rw [va_up_self]
    exact ⟨fun _ => Or.inl ⟨h8, rfl⟩, fun _ => rfl⟩
  · rw [va_up_ne _ _ e]
    obtain ⟨hr, h9⟩ := ho i hi e
    refine ⟨fun q => ?_, (h i hi).2⟩
    unfold lbl1
    rw [hr 1 (by omega) (by omega), hr 2 (by omega) (by omega), hr 3 (by omega) (by omega), h9]
    exact (h i hi).1 q
theorem lbl.mark (h : lbl ln lf x v) (hm : nI k < x 3) (hp : 0 < x (28 + 9 * k + 3)) : lbl (va_up ln k (labLen x k)) (va_up lf k (labTxt x k)) x (upd v (28 + 9 * k + 8) (if decide (1 ≤ x (28 + 9 * k + 6)) = true then 2 else 1)) := by
  intro i hi
  by_cases e : i = k
  · subst e
    rw [va_up_self, va_up_self]
    exact ⟨fun _ => Or.inr ⟨decide (1 ≤ x (28 + 9 * i + 6)), if_pos rfl, hp, rfl, fun _ _ => rfl⟩, fun q => absurd hm q⟩
  · rw [va_up_ne _ _ e, va_up_ne _ _ e]
    refine ⟨fun q => ?_, (h i hi).2⟩
    unfold lbl1
    rw [show upd v (28 + 9 * k + 8) (if decide (1 ≤ x (28 + 9 * k + 6)) = true then 2 else 1) (28 + 9 * i + 8) = v (28 + 9 * i + 8) from if_neg (by omega)]
    exact (h i hi).1 q
theorem lbl.make (h : lbl ln lf x v) {m : Nat} (hm : m < 20) (e3 : x 3 = nI m) (h3 : x' 3 = nI (m + 1)) (h8 : v' (28 + 9 * m + 8) = 0) (ho : ∀ i, i < 20 → i ≠ m → (∀ j, 0 < j → j < 4 → x' (28 + 9 * i + j) = x (28 + 9 * i + j)) ∧ v' (28 + 9 * i + 8) = v (28 + 9 * i + 8)) : lbl ln lf x' v' := by
  intro i hi
  by_cases e : i = m
  · subst e
    have h0 := (h i hi).2 (by rw [e3]; exact nI_nlt (Nat.le_refl _) (by omega))
    exact ⟨fun _ => Or.inl ⟨h8, h0⟩, fun _ => h0⟩
  · obtain ⟨hr, h9⟩ := ho i hi e
    have hiff : nI i < x' 3 ↔ nI i < x 3 := by
      rw [h3, e3, nI_ltI (by omega) (by omega), nI_ltI (by omega) (by omega)]
      omega
    refine ⟨fun q => ?_, fun q => (h i hi).2 (fun z => q (hiff.mpr z))⟩
    unfold lbl1
    rw [hr 1 (by omega) (by omega), hr 2 (by omega) (by omega), hr 3 (by omega) (by omega), h9]
    exact (h i hi).1 (hiff.mp q)
theorem lbl.cong (h : lbl ln lf x v) (hx : ∀ q, q < 208 → x' q = x q) : lbl ln lf x' v := by
  intro k hk
  rw [hx 3 (by omega)]
  refine ⟨fun q => ?_, (h k hk).2⟩
  unfold lbl1
  rw [hx (28 + 9 * k + 1) (by omega), hx (28 + 9 * k + 2) (by omega), hx (28 + 9 * k + 3) (by omega)]
  exact (h k hk).1 q
theorem lbl.congV (h : lbl ln lf x v) (hv : ∀ q, q < 208 → v' q = v q) : lbl ln lf x v' := by
  intro k hk
  refine ⟨fun q => ?_, (h k hk).2⟩
  unfold lbl1
  rw [hv (28 + 9 * k + 8) (by omega)]
  exact (h k hk).1 q
theorem nin (hn : n ≤ 20) (e3 : x 3 = nI n) {cn : Int32} (h : ¬ (0 ≤ cn ∧ cn < x 3 ∧ cn < 20)) : ¬ (0 ≤ cn ∧ cn < x 3) := fun q => h ⟨q.1, q.2, Int32.lt_of_lt_of_le q.2 (by rw [e3]; exact nI_le (b := 20) hn (by omega))⟩
theorem alk.bad (h : alk x v) {cn : Int32} (hc : ¬ (0 ≤ cn ∧ cn < x 3 ∧ cn < 20)) : ¬ (0 ≤ cn ∧ cn < v 3) := by
  obtain ⟨n, hn, e3⟩ := h.num
  rw [h.at (q := 3) (by omega)]
  exact nin hn e3 hc
theorem alk.kk (h : alk x v) {kc : Nat} (hk : k < 20) (hkc : kc < 20) (e : nI k = nI kc) : k = kc := (nI_eq (by omega) (by omega)).mp e
end ALK
/-! THE SAME CHANGE ON BOTH SIDES -/
theorem sIx_n {a b : Nat} (ha : a < 6) (hb : b < 3) : 10 + sIx (nI a) (nI b) = 10 + 3 * a + b := by
  have e : nI a * 3 + nI b = nI (a * 3 + b) := by
    rw [show (3 : Int32) = nI 3 from rfl, show nI a * nI 3 = nI (a * 3) from (Int32.ofNat_mul a 3).symm, nI_add]
  unfold sIx
  rw [e, nI_clamp (by omega)]
  omega
theorem isLeafB_n {a b : Nat} (ha : a < 6) (hb : b < 3) : isLeafB (nI a) (nI b) = true := decide_eq_true ⟨nI_pos' (by omega), nI_lt (b := 6) ha (by omega), nI_pos' (by omega), nI_lt (b := 3) hb (by omega)⟩
theorem sGet_n {x : Nat → Int32} {a b : Nat} (ha : a < 6) (hb : b < 3) : sGet x (nI a) (nI b) = x (10 + 3 * a + b) := by
  unfold sGet
  rw [if_pos (isLeafB_n ha hb), sIx_n ha hb]
theorem sAdd_n {x : Nat → Int32} {a b : Nat} (ha : a < 6) (hb : b < 3) {po : Int32} : sAdd x (nI a) (nI b) po = upd x (10 + 3 * a + b) (x (10 + 3 * a + b) + po) := by
  unfold sAdd
  rw [if_pos (isLeafB_n ha hb), sIx_n ha hb]
theorem setRow_upd {x f : Nat → Int32} {k j : Nat} {z : Int32} (hj : j < 8) : setRow x k (upd f j z) = upd (setRow x k f) (28 + 9 * k + j) z := by
  funext q
  unfold setRow upd
  by_cases e : q = 28 + 9 * k + j
  · rw [if_pos (by omega), if_pos (by omega), if_pos e]
  · rw [if_neg e]
    show (if _ then _ else _) = (if _ then _ else _)
    by_cases e2 : 28 + 9 * k ≤ q ∧ q < 28 + 9 * k + 8
    · rw [if_pos e2, if_neg (by omega), if_pos e2]
    · rw [if_neg e2, if_neg e2]
theorem lsr_lo (z : Int32) : lsr 200 z = lo200 z := by
  unfold lsr lo200
  by_cases h : z < 200
  · rw [if_pos h, if_neg (fun q => Int32.lt_irrefl (Int32.lt_trans q h))]
  · rw [if_neg h]
    by_cases h2 : 200 < z
    · rw [if_pos h2]
    · rw [if_neg h2]
      exact Int32.le_antisymm (Int32.not_lt.mp h2) (Int32.not_lt.mp h)
theorem tide_hgt (c h : Int32) : tide c h = hgt (c + h) := by
  unfold tide hgt
  split
  · rename_i h1
    rw [if_neg (Int32.not_lt.mpr h1)]
  · rename_i h1
    rw [if_pos (Int32.not_le.mp h1), Int32.zero_sub]
theorem tide_0 (c : Int32) : tide c 0 = hgt c := by rw [tide_hgt, Int32.add_zero]
section ALK2
variable {x v t t' v' : Nat → Int32} {k : Nat} {r : Option Value}
theorem chest_bad {P : Prop} (hA : alk x v) {cn : Int32} (hc : ¬ (0 ≤ cn ∧ cn < x 3 ∧ cn < 20)) {kc : Nat} (e : cn = nI kc) (hm : nI kc < v 3) (hkc : kc < 20) : P := by
  refine absurd ⟨?_, ?_⟩ (hA.bad hc)
  · rw [e]; exact nI_pos' (by omega)
  · rw [e]; exact hm
theorem chest_in {P : Prop} (hA : alk x v) (hm : nI k < x 3) (hk : k < 20) (hc : ¬ (0 ≤ nI k ∧ nI k < v 3)) : P := absurd ⟨nI_pos' (by omega), by rw [hA.at (by omega)]; exact hm⟩ hc
theorem pos_nI {p : Nat} (hp : p < 2 ^ 31) : 0 < nI p ↔ ¬ nI p = 0 := by
  rw [show (0 : Int32) = nI 0 from rfl, nI_ltI (by omega) hp, nI_eq hp (by omega)]
  omega
theorem hok.po (h : hok x) (hk : k < 20) : 0 < x (28 + 9 * k + 3) ↔ ¬ x (28 + 9 * k + 3) = 0 := by
  obtain ⟨n, hn, e3, hc⟩ := h
  obtain ⟨⟨z, p, hz, hp, hnk, ez, ep, hg⟩, -⟩ := hc k hk
  rw [ep]
  exact pos_nI (by omega)
theorem leaf_bad {P : Prop} {ga ki : Int32} {a b : Nat} (h : isLeafB ga ki = false) (e1 : ga = nI a) (e2 : ki = nI b) (ha : a < 6) (hb : b < 3) : P := by
  subst e1; subst e2
  rw [isLeafB_n ha hb] at h
  exact absurd h (by decide)
theorem leaf_uq {a b a2 b2 : Nat} (e1 : nI a = nI a2) (e2 : nI b = nI b2) (ha : a < 6) (hb : b < 3) (ha2 : a2 < 6) (hb2 : b2 < 3) : a = a2 ∧ b = b2 := ⟨(nI_eq (by omega) (by omega)).mp e1, (nI_eq (by omega) (by omega)).mp e2⟩
theorem line_eq (hA : alk x v) (hx : hok x) (hm : nI k < x 3) (hk : k < 20) (hR : R_X8_linesChest t v (nI k) r t' v') : (lineOk x k ∧ t' 1 = t 1 ∧ r = some (.int (lineX x k 1)) ∧ alk (lineX x k) v' ∧ lks x v (lineX x k) v') ∨ (¬ lineOk x k ∧ t' 1 = 3) := by
  have e := fun {j : Nat} (hj : j < 8) => hA.row hm hk hj
  have e1 := hA.at (q := 1) (by omega)
  have hl := hx.lined k hk
  unfold lineOk
  rcases hR with ⟨kc, ek, -, hkc, h7, h5, h4, h1, ht, hr, hv⟩ | ⟨kc, ek, -, hkc, h7, h5, h4, h1, ht⟩ | ⟨kc, ek, -, hkc, h7, h5, h4, ht⟩ | ⟨kc, t2, ek, -, hkc, h75, -, ht⟩ | ⟨hc, -⟩
  · obtain rfl := hA.kk hk hkc ek
    rw [e (by omega)] at h7 h5 h4 h1 hr hv
    rw [e1] at h1 hr hv
    refine Or.inl ⟨⟨h7, h5, hl.resolve_right h4, h1⟩, ht, hr, ?_, ?_⟩
    · rw [hv]; exact (hA.lo (by omega) (by omega)).ro hm hk (by omega) (by omega)
    · rw [hv]; exact (lks.rf.up (by omega) (by omega)).up (Or.inr ⟨k, 4, hk, by omega, rfl⟩) (Or.inr ⟨k, 4, hk, by omega, rfl⟩)
  · obtain rfl := hA.kk hk hkc ek
    rw [e (by omega), e1] at h1
    exact Or.inr ⟨fun q => h1 q.2.2.2, ht⟩
  · obtain rfl := hA.kk hk hkc ek
    rw [e (by omega)] at h4
    exact Or.inr ⟨fun q => by have := q.2.2.1; rw [h4] at this; exact absurd this (by decide), ht⟩
  · obtain rfl := hA.kk hk hkc ek
    rw [e (by omega), e (by omega)] at h75
    exact Or.inr ⟨fun q => h75 ⟨q.1, q.2.1⟩, ht⟩
  · exact absurd ⟨nI_pos' (by omega), by rw [hA.at (by omega)]; exact hm⟩ hc
theorem line_bad (hA : alk x v) {cn : Int32} (hc : ¬ (0 ≤ cn ∧ cn < x 3 ∧ cn < 20)) (hR : R_X8_linesChest t v cn r t' v') : t' 1 = 1 := by
  rcases hR with ⟨kc, ek, hm, hkc, h⟩ | ⟨kc, ek, hm, hkc, h⟩ | ⟨kc, ek, hm, hkc, h⟩ | ⟨kc, t2, ek, hm, hkc, h⟩ | ⟨-, h⟩
  · exact chest_bad hA hc ek hm hkc
  · exact chest_bad hA hc ek hm hkc
  · exact chest_bad hA hc ek hm hkc
  · exact chest_bad hA hc ek hm hkc
  · exact h
theorem bring_eq (hA : alk x v) {ga ki po : Int32} (hl : isLeafB ga ki = true) (hp : 1 ≤ po ∧ po ≤ 500) (hR : R_X8_brings t v ga ki po r t' v') : (sGet x ga ki + po ≤ 500 ∧ t' 1 = t 1 ∧ r = some (.int (sGet (bringX x ga ki po) ga ki)) ∧ alk (bringX x ga ki po) v' ∧ lks x v (bringX x ga ki po) v') ∨ (¬ sGet x ga ki + po ≤ 500 ∧ t' 1 = 3) := by
  rcases hR with ⟨a, b, rfl, rfl, ha, hb, hp2, h5, ht, hr, hv⟩ | ⟨a, b, rfl, rfl, ha, hb, hp2, h5, ht⟩ | ⟨a, b, rfl, rfl, ha, hb, hp2, ht⟩ | ⟨h, -⟩
  · have f1 := hA.at (q := 10 + 3 * a + b) (by omega)
    have e : bringX x (nI a) (nI b) po = upd (upd x (10 + 3 * a + b) (x (10 + 3 * a + b) + po)) 6 ((upd x (10 + 3 * a + b) (x (10 + 3 * a + b) + po)) 6 + po) := by
      unfold bringX
      rw [sAdd_n ha hb]
    have g6 : upd v (10 + 3 * a + b) (x (10 + 3 * a + b) + po) 6 = upd x (10 + 3 * a + b) (x (10 + 3 * a + b) + po) 6 := (if_neg (by omega)).trans ((hA.at (q := 6) (by omega)).trans (if_neg (by omega)).symm)
    rw [f1] at h5 hr hv
    rw [g6] at hr hv
    rw [sGet_n ha hb]
    refine Or.inl ⟨h5, ht, ?_, ?_, ?_⟩
    · rw [sGet_n ha hb, e, hr]
      have : ∀ y : Nat → Int32, ∀ z z2, upd (upd y (10 + 3 * a + b) z) 6 z2 (10 + 3 * a + b) = z := fun y z z2 => (if_neg (by omega)).trans (if_pos rfl)
      rw [this, this]
    · rw [e, hv]; exact (hA.lo (by omega) (by omega)).lo (by omega) (by omega)
    · rw [e, hv]; exact (lks.rf.up (by omega) (by omega)).up (by omega) (by omega)
  · rw [hA.at (q := 10 + 3 * a + b) (by omega)] at h5
    rw [sGet_n ha hb]
    exact Or.inr ⟨h5, ht⟩
  · exact absurd hp hp2
  · rw [hl] at h; exact absurd h (by decide)
theorem bring_bad {ga ki po : Int32} (hR : R_X8_brings t v ga ki po r t' v') : (¬ isLeafB ga ki = true → t' 1 = 1) ∧ (isLeafB ga ki = true → ¬ (1 ≤ po ∧ po ≤ 500) → t' 1 = 2) := by
  rcases hR with ⟨a, b, rfl, rfl, ha, hb, hp2, h5, ht, hr, hv⟩ | ⟨a, b, rfl, rfl, ha, hb, hp2, h5, ht⟩ | ⟨a, b, rfl, rfl, ha, hb, hp2, ht⟩ | ⟨h, ht⟩
  · exact ⟨fun q => absurd (isLeafB_n ha hb) q, fun _ q => absurd hp2 q⟩
  · exact ⟨fun q => absurd (isLeafB_n ha hb) q, fun _ q => absurd hp2 q⟩
  · exact ⟨fun q => absurd (isLeafB_n ha hb) q, fun _ _ => ht⟩
  · exact ⟨fun _ => ht, fun q => by rw [h] at q; exact absurd q (by decide)⟩
theorem buy_eq (hA : alk x v) {kw : Nat} (hkw : kw = 1 ∨ kw = 2) {mn : Int32} (hp : 1 ≤ mn ∧ mn ≤ 99) (hR : R_X8_buys t v kw mn r t' v') : t' 1 = t 1 ∧ r = some (.int (upd x kw (lo200 (x kw + mn)) kw)) ∧ alk (upd x kw (lo200 (x kw + mn))) v' ∧ lks x v (upd x kw (lo200 (x kw + mn))) v' := by
  have f1 := hA.at (q := kw) (by omega)
  rcases hR with ⟨h1, ht, hr, hv⟩ | ⟨h1, -⟩
  · rw [f1, lsr_lo] at hr hv
    refine ⟨ht, ?_, ?_, ?_⟩
    · rw [hr]
      exact congrArg (fun z => some (Value.int z)) ((if_pos rfl).trans (if_pos rfl).symm)
    · rw [hv]; exact hA.lo (by omega) (by omega)
    · rw [hv]; exact lks.rf.up (by omega) (by omega)
  · exact absurd hp h1
theorem buy_bad {kw : Nat} {mn : Int32} (hp : ¬ (1 ≤ mn ∧ mn ≤ 99)) (hR : R_X8_buys t v kw mn r t' v') : t' 1 = 2 := by
  rcases hR with ⟨h1, -⟩ | ⟨-, h⟩
  · exact absurd h1 hp
  · exact h
theorem humid_eq (hA : alk x v) {hu : Int32} (hp : 0 ≤ hu ∧ hu ≤ 9) (hR : R_X8_humid t v hu r t' v') : t' 1 = t 1 ∧ r = some (.int (x 5)) ∧ alk (upd x 5 hu) v' ∧ lks x v (upd x 5 hu) v' := by
  rcases hR with ⟨h1, ht, hr, hv⟩ | ⟨h1, -⟩
  · rw [hA.at (by omega)] at hr
    refine ⟨ht, hr, ?_, ?_⟩
    · rw [hv]; exact hA.lo (by omega) (by omega)
    · rw [hv]; exact lks.rf.up (by omega) (by omega)
  · exact absurd hp h1
theorem humid_bad {hu : Int32} (hp : ¬ (0 ≤ hu ∧ hu ≤ 9)) (hR : R_X8_humid t v hu r t' v') : t' 1 = 2 := by
  rcases hR with ⟨h1, -⟩ | ⟨-, h⟩
  · exact absurd h1 hp
  · exact h
theorem unscrew_eq (hA : alk x v) (hm : nI k < x 3) (hk : k < 20) (hR : R_X8_unscrews t v (nI k) r t' v') : (x (28 + 9 * k + 7) = 0 ∧ t' 1 = t 1 ∧ r = some (.int (x (28 + 9 * k + 5))) ∧ alk (unscrewX x k) v' ∧ lks x v (unscrewX x k) v') ∨ (¬ x (28 + 9 * k + 7) = 0 ∧ t' 1 = 3) := by
  have e7 := hA.row hm hk (j := 7) (by omega)
  have e5 := hA.row hm hk (j := 5) (by omega)
  rcases hR with ⟨kc, ek, -, hkc, h7, ht, hr, hv⟩ | ⟨kc, ek, -, hkc, h7, ht⟩ | ⟨hc, -⟩
  · obtain rfl := hA.kk hk hkc ek
    rw [e7] at h7
    rw [e5] at hr hv
    rw [hA.at (by omega), lsr_lo] at hv
    refine Or.inl ⟨h7, ht, hr, ?_, ?_⟩
    · rw [hv]; exact (hA.lo (by omega) (by omega)).ro hm hk (by omega) (by omega)
    · rw [hv]; exact (lks.rf.up (by omega) (by omega)).up (Or.inr ⟨k, 5, hk, by omega, rfl⟩) (Or.inr ⟨k, 5, hk, by omega, rfl⟩)
  · obtain rfl := hA.kk hk hkc ek
    rw [e7] at h7
    exact Or.inr ⟨h7, ht⟩
  · exact chest_in hA hm hk hc
theorem unscrew_bad (hA : alk x v) {cn : Int32} (hc : ¬ (0 ≤ cn ∧ cn < x 3 ∧ cn < 20)) (hR : R_X8_unscrews t v cn r t' v') : t' 1 = 1 := by
  rcases hR with ⟨kc, ek, hm, hkc, h⟩ | ⟨kc, ek, hm, hkc, h⟩ | ⟨-, h⟩
  · exact chest_bad hA hc ek hm hkc
  · exact chest_bad hA hc ek hm hkc
  · exact h
theorem tight_eq (hA : alk x v) (hx : hok x) (hm : nI k < x 3) (hk : k < 20) : rTight v k ↔ cTight (row x k) = true := by
  have e4 := hA.row hm hk (j := 4) (by omega)
  have e5 := hA.row hm hk (j := 5) (by omega)
  have e0 := hA.row hm hk (j := 0) (by omega)
  have hl := hx.lined k hk
  unfold rTight cTight
  rw [e4, e5, e0, decide_eq_true_iff]
  show _ ↔ ¬ x (28 + 9 * k + 4) = 0 ∧ x (28 + 9 * k + 0) + 2 ≤ x (28 + 9 * k + 5)
  constructor
  · rintro ⟨h1, h2⟩
    exact ⟨by rw [h1]; decide, h2⟩
  · rintro ⟨h1, h2⟩
    exact ⟨hl.resolve_left h1, h2⟩
theorem screw_eq (hA : alk x v) (hx : hok x) (hm : nI k < x 3) (hk : k < 20) {mn : Int32} (hp : 1 ≤ mn ∧ mn ≤ 8) (hR : R_X8_screws t v (nI k) mn r t' v') : (screwOk x k mn ∧ t' 1 = t 1 ∧ r = some (.int (if cTight (row (screwX x k mn) k) = true then 1 else 0)) ∧ alk (screwX x k mn) v' ∧ lks x v (screwX x k mn) v') ∨ (¬ screwOk x k mn ∧ t' 1 = 3) := by
  have e3 := hA.row hm hk (j := 3) (by omega)
  have e5 := hA.row hm hk (j := 5) (by omega)
  have e7 := hA.row hm hk (j := 7) (by omega)
  have f2 := hA.at (q := 2) (by omega)
  have g5 : ∀ z, upd v 2 z (28 + 9 * k + 5) = upd x 2 z (28 + 9 * k + 5) := fun z => (if_neg (by omega)).trans (e5.trans (if_neg (by omega)).symm)
  have hA2 : alk (screwX x k mn) (upd (upd v 2 (v 2 - mn)) (28 + 9 * k + 5) ((upd v 2 (v 2 - mn)) (28 + 9 * k + 5) + mn)) := by
    rw [f2, g5]; exact (hA.lo (by omega) (by omega)).ro hm hk (by omega) (by omega)
  have hL2 : lks x v (screwX x k mn) (upd (upd v 2 (v 2 - mn)) (28 + 9 * k + 5) ((upd v 2 (v 2 - mn)) (28 + 9 * k + 5) + mn)) := (lks.rf.up (by omega) (by omega)).up (Or.inr ⟨k, 5, hk, by omega, rfl⟩) (Or.inr ⟨k, 5, hk, by omega, rfl⟩)
  have hm2 : nI k < screwX x k mn 3 := hm
  have hx2 : screwX x k mn (28 + 9 * k + 4) = 0 ∨ screwX x k mn (28 + 9 * k + 4) = 1 := by
    have : screwX x k mn (28 + 9 * k + 4) = x (28 + 9 * k + 4) := (if_neg (by omega)).trans (if_neg (by omega))
    rw [this]; exact hx.lined k hk
  have hT : rTight (upd (upd v 2 (v 2 - mn)) (28 + 9 * k + 5) ((upd v 2 (v 2 - mn)) (28 + 9 * k + 5) + mn)) k ↔ cTight (row (screwX x k mn) k) = true := by
    unfold rTight cTight
    rw [hA2.row hm2 hk (j := 4) (by omega), hA2.row hm2 hk (j := 0) (by omega), hA2.row hm2 hk (j := 5) (by omega), decide_eq_true_iff]
    show _ ↔ ¬ screwX x k mn (28 + 9 * k + 4) = 0 ∧ screwX x k mn (28 + 9 * k + 0) + 2 ≤ screwX x k mn (28 + 9 * k + 5)
    constructor
    · rintro ⟨h1, h2⟩
      exact ⟨by rw [h1]; decide, h2⟩
    · rintro ⟨h1, h2⟩
      exact ⟨hx2.resolve_left h1, h2⟩
  have hpo := hx.po hk
  unfold screwOk
  rcases hR with ⟨kc, ek, -, hkc, -, h7, h3, ht⟩ | ⟨kc, ek, -, hkc, -, h7, h3, h2, h5, h9, ht, hr, hv⟩ | ⟨kc, ek, -, hkc, -, h7, h3, h2, h5, h9, ht, hr, hv⟩ | ⟨kc, ek, -, hkc, -, h7, h3, h2, h5, ht⟩ | ⟨kc, ek, -, hkc, -, h7, h3, h2, ht⟩ | ⟨kc, ek, -, hkc, -, h7, ht⟩ | ⟨kc, ek, -, hkc, hp2, ht⟩ | ⟨hc, -⟩
  · obtain rfl := hA.kk hk hkc ek
    rw [e3] at h3
    exact Or.inr ⟨fun q => hpo.mp q.2.1 h3, ht⟩
  · obtain rfl := hA.kk hk hkc ek
    rw [e3] at h3
    rw [e7] at h7
    rw [f2] at h2
    rw [e5] at h5
    refine Or.inl ⟨⟨h7, hpo.mpr h3, h2, h5⟩, ht, ?_, ?_, ?_⟩
    · rw [hr, if_pos (hT.mp h9)]
    · rw [hv]; exact hA2
    · rw [hv]; exact hL2
  · obtain rfl := hA.kk hk hkc ek
    rw [e3] at h3
    rw [e7] at h7
    rw [f2] at h2
    rw [e5] at h5
    refine Or.inl ⟨⟨h7, hpo.mpr h3, h2, h5⟩, ht, ?_, ?_, ?_⟩
    · rw [hr, if_neg (fun q => h9 (hT.mpr q))]
    · rw [hv]; exact hA2
    · rw [hv]; exact hL2
  · obtain rfl := hA.kk hk hkc ek
    rw [e5] at h5
    exact Or.inr ⟨fun q => h5 q.2.2.2, ht⟩
  · obtain rfl := hA.kk hk hkc ek
    rw [f2] at h2
    exact Or.inr ⟨fun q => h2 q.2.2.1, ht⟩
  · obtain rfl := hA.kk hk hkc ek
    rw [e7] at h7
    exact Or.inr ⟨fun q => h7 q.1, ht⟩
  · exact absurd hp hp2
  · exact chest_in hA hm hk hc
theorem screw_bad (hA : alk x v) {cn mn : Int32} (hR : R_X8_screws t v cn mn r t' v') : (¬ (0 ≤ cn ∧ cn < x 3 ∧ cn < 20) → t' 1 = 1) ∧ (∀ k, k < 20 → cn = nI k → nI k < x 3 → ¬ (1 ≤ mn ∧ mn ≤ 8) → t' 1 = 2) := by
  rcases hR with ⟨kc, ek, hm, hkc, hp, h⟩ | ⟨kc, ek, hm, hkc, hp, h⟩ | ⟨kc, ek, hm, hkc, hp, h⟩ | ⟨kc, ek, hm, hkc, hp, h⟩ | ⟨kc, ek, hm, hkc, hp, h⟩ | ⟨kc, ek, hm, hkc, hp, h⟩ | ⟨kc, ek, hm, hkc, hp, h⟩ | ⟨hc, h⟩
  · exact ⟨fun hc => chest_bad hA hc ek hm hkc, fun _ _ _ _ q => absurd hp q⟩
  · exact ⟨fun hc => chest_bad hA hc ek hm hkc, fun _ _ _ _ q => absurd hp q⟩
  · exact ⟨fun hc => chest_bad hA hc ek hm hkc, fun _ _ _ _ q => absurd hp q⟩
  · exact ⟨fun hc => chest_bad hA hc ek hm hkc, fun _ _ _ _ q => absurd hp q⟩
  · exact ⟨fun hc => chest_bad hA hc ek hm hkc, fun _ _ _ _ q => absurd hp q⟩
  · exact ⟨fun hc => chest_bad hA hc ek hm hkc, fun _ _ _ _ q => absurd hp q⟩
  · exact ⟨fun hc => chest_bad hA hc ek hm hkc, fun _ _ _ _ _ => h⟩
  · exact ⟨fun _ => h, fun k hk e hm _ => by subst e; exact chest_in hA hm hk hc⟩

theorem lt_up {q : Nat} {z : Int32} (hm : nI k < x 3) (hq : q ≠ 3) : nI k < upd x q z 3 := by
  rw [show upd x q z 3 = x 3 from if_neg (fun e => hq e.symm)]
  exact hm
/-- folds over the twenty places of the class are folds over the chests made -/
theorem hFold_al {q q' : Nat → Bool} {f f' : Nat → Int32} {n : Nat} (h1 : ∀ k, k < n → q k = q' k ∧ f k = f' k) (h2 : ∀ k, n ≤ k → k < 20 → q k = false) (hn : n ≤ 20) : hFold q f 20 = hFold q' f' n := by
  have a : ∀ m, m ≤ n → hFold q f m = hFold q' f' m := by
    intro m
    induction m with
    | zero => intro _; rfl
    | succ m ih =>
      intro hm
      obtain ⟨e1, e2⟩ := h1 m (by omega)
      unfold hFold
      rw [ih (by omega), e1, e2]
  have b : ∀ m, n + m ≤ 20 → hFold q f (n + m) = hFold q f n := by
    intro m
    induction m with
    | zero => intro _; rfl
    | succ m ih =>
      intro hm
      have e : hFold q f (n + (m + 1)) = hFold q f (n + m) := by
        show (if q (n + m) = true then _ else _) = _
        exact if_neg (by rw [h2 (n + m) (by omega) (by omega)]; decide)
      rw [e]
      exact ih (by omega)
  have := b (20 - n) (by omega)
  rw [show n + (20 - n) = 20 by omega] at this
  rw [this]
  exact a n (Nat.le_refl _)
theorem hFold_cg {q q' : Nat → Bool} {f f' : Nat → Int32} {n : Nat} (h1 : ∀ k, k < n → q k = q' k ∧ f k = f' k) : hFold q f n = hFold q' f' n := by
  induction n with
  | zero => rfl
  | succ n ih =>
    obtain ⟨e1, e2⟩ := h1 n (by omega)
    unfold hFold
    rw [ih (fun k hk => h1 k (by omega)), e1, e2]
theorem alk.lt (hA : alk x v) {n : Nat} (hn : n ≤ 20) (e3 : x 3 = nI n) (hk : k < n) : nI k < x 3 := by
  rw [e3]; exact nI_lt hk (by omega)
theorem alk.blank (hA : alk x v) {n : Nat} (hn : n ≤ 20) (e3 : x 3 = nI n) (hk : n ≤ k) (h20 : k < 20) {j : Nat} (hj : j < 8) : x (28 + 9 * k + j) = blankC j := by
  obtain ⟨h1, ⟨n2, hn2, e4, h2, h4⟩, h5⟩ := hA
  obtain rfl : n = n2 := (nI_eq (by omega) (by omega)).mp (e3.symm.trans e4)
  exact h4 k hk h20 j hj
theorem nAt_eq (hA : alk x v) {n : Nat} (hn : n ≤ 20) (e3 : x 3 = nI n) {wh : Int32} (hw : ¬ -1 = wh) : nAt x wh 20 = nAt v wh n := by
  refine hFold_al (fun k hk => ⟨?_, rfl⟩) (fun k hk h20 => ?_) hn
  · unfold isAt
    rw [hA.row (hA.lt hn e3 hk) (by omega) (by omega)]
  · unfold isAt
    rw [hA.blank hn e3 hk h20 (by omega)]
    exact decide_eq_false hw
theorem hRoom_eq (hA : alk x v) {n : Nat} (hn : n ≤ 20) (e3 : x 3 = nI n) : hRoom x 20 = hRoom v n := by
  have a : ∀ m, m ≤ n → hRoom x m = hRoom v m := by
    intro m
    induction m with
    | zero => intro _; rfl
    | succ m ih =>
      intro hm
      unfold hRoom
      rw [ih (by omega), hA.row (hA.lt hn e3 (k := m) (by omega)) (by omega) (by omega), hA.row (hA.lt hn e3 (k := m) (by omega)) (by omega) (by omega)]
  have b : ∀ m, n + m ≤ 20 → hRoom x (n + m) = hRoom x n := by
    intro m
    induction m with
    | zero => intro _; rfl
    | succ m ih =>
      intro hm
      have e : hRoom x (n + (m + 1)) = hRoom x (n + m) := by
        show (if x (28 + 9 * (n + m) + 7) = 2 then _ else _) = _
        rw [hA.blank hn e3 (by omega) (by omega) (by omega)]
        exact if_neg (by decide)
      rw [e]
      exact ih (by omega)
  have := b (20 - n) (by omega)
  rw [show n + (20 - n) = 20 by omega] at this
  rw [this]
  exact a n (Nat.le_refl _)
theorem worth_eq (hA : alk x v) (hm : nI k < x 3) (hk : k < 20) : rWorth v k = cCoins (row x k) := by
  unfold rWorth cCoins
  rw [hA.row hm hk (j := 3) (by omega), hA.row hm hk (j := 2) (by omega), hA.row hm hk (j := 6) (by omega)]
  show _ = x (28 + 9 * k + 3) * (x (28 + 9 * k + 2) + 1) - x (28 + 9 * k + 3) * x (28 + 9 * k + 6) / 20
  split
  · rename_i h
    rw [h, Int32.zero_mul, Int32.zero_mul]
    rfl
  · rfl
theorem cargo_eq (hA : alk x v) {n : Nat} (hn : n ≤ 20) (e3 : x 3 = nI n) : cargoN x 20 = rCargo v n := by
  refine hFold_al (fun k hk => ⟨?_, (worth_eq hA (hA.lt hn e3 hk) (by omega)).symm⟩) (fun k hk h20 => ?_) hn
  · unfold isAt
    rw [hA.row (hA.lt hn e3 hk) (by omega) (by omega)]
  · unfold isAt
    rw [hA.blank hn e3 hk h20 (by omega)]
    decide
theorem empty_eq (hA : alk x v) (hx : hok x) (hm : nI k < x 3) (hk : k < 20) (hR : R_X8_empties t v (nI k) r t' v') : (emptyOk x k ∧ t' 1 = t 1 ∧ r = some (.int (x (28 + 9 * k + 3))) ∧ alk (emptyX x k) v' ∧ v' (28 + 9 * k + 8) = 0 ∧ emptyX x k 3 = x 3 ∧ ∀ i, i < 20 → i ≠ k → (∀ j, 0 < j → j < 4 → emptyX x k (28 + 9 * i + j) = x (28 + 9 * i + j)) ∧ v' (28 + 9 * i + 8) = v (28 + 9 * i + 8)) ∨ (¬ emptyOk x k ∧ t' 1 = 3) := by
  have e1 := hA.row hm hk (j := 1) (by omega)
  have e2 := hA.row hm hk (j := 2) (by omega)
  have e3 := hA.row hm hk (j := 3) (by omega)
  have e5 := hA.row hm hk (j := 5) (by omega)
  have e7 := hA.row hm hk (j := 7) (by omega)
  have hpo := hx.po hk
  unfold emptyOk
  rcases hR with ⟨kc, ek, -, hkc, h7, h5, h3, ht⟩ | ⟨kc, a, b, ek, -, hkc, h7, h5, h3, ha, hb, h1, h2, ht, hr, hv⟩ | ⟨kc, t2, ek, -, hkc, h75, -, ht⟩ | ⟨hc, -⟩
  · obtain rfl := hA.kk hk hkc ek
    rw [e3] at h3
    exact Or.inr ⟨fun q => hpo.mp q.2.2 h3, ht⟩
  · obtain rfl := hA.kk hk hkc ek
    have f1 := hA.at (q := 10 + 3 * a + b) (by omega)
    have f8 : ∀ z, upd v (10 + 3 * a + b) z 8 = upd x (10 + 3 * a + b) z 8 := fun z => (if_neg (by omega)).trans ((hA.at (q := 8) (by omega)).trans (if_neg (by omega)).symm)
    rw [e7] at h7
    rw [e5] at h5
    rw [e1] at h1
    rw [e2] at h2
    rw [e3] at h3 hr hv
    rw [f1, f8] at hv
    have hb0 : backOf x k = lsr (x (28 + 9 * k + 3)) (500 - x (10 + 3 * a + b)) := by
      unfold backOf
      rw [h1, h2, sGet_n ha hb]
      rfl
    have ey : emptyY x k = upd x (10 + 3 * a + b) (x (10 + 3 * a + b) + backOf x k) := by
      unfold emptyY
      rw [h1, h2, sAdd_n ha hb]
    have ex : emptyX x k = upd (upd (upd (upd (upd (upd x (10 + 3 * a + b) (x (10 + 3 * a + b) + backOf x k)) 8 ((upd x (10 + 3 * a + b) (x (10 + 3 * a + b) + backOf x k)) 8 + (x (28 + 9 * k + 3) - backOf x k))) (28 + 9 * k + 1) (-1)) (28 + 9 * k + 2) (-1)) (28 + 9 * k + 3) 0) (28 + 9 * k + 6) 0 := by
      unfold emptyX emptyZ cOut
      rw [setRow_upd (by omega), setRow_upd (by omega), setRow_upd (by omega), setRow_upd (by omega), setRow_self, ey]
      have : upd x (10 + 3 * a + b) (x (10 + 3 * a + b) + backOf x k) (28 + 9 * k + 3) = x (28 + 9 * k + 3) := if_neg (by omega)
      rw [this]
    rw [← hb0] at hv
    have hA2 : alk (emptyX x k) v' := by
      rw [ex, hv]
      exact ((((((hA.lo (by omega) (by omega)).lo (by omega) (by omega)).ro (by repeat (first | exact hm | refine lt_up ?_ (by omega))) hk (by omega) (by omega)).ro (by repeat (first | exact hm | refine lt_up ?_ (by omega))) hk (by omega) (by omega)).ro (by repeat (first | exact hm | refine lt_up ?_ (by omega))) hk (by omega) (by omega)).ro (by repeat (first | exact hm | refine lt_up ?_ (by omega))) hk (by omega) (fun _ => ⟨0, by omega, rfl⟩)).lab
    refine Or.inl ⟨⟨h7, h5, hpo.mpr h3⟩, ht, hr, hA2, by rw [hv]; exact if_pos rfl, ?_, fun i hi hik => ⟨fun j h0 hj => ?_, ?_⟩⟩
    · rw [ex]
      iterate 6 refine (if_neg (by omega)).trans ?_
      rfl
    · rw [ex]
      iterate 6 refine (if_neg (by omega)).trans ?_
      rfl
    · rw [hv]
      iterate 7 refine (if_neg (by omega)).trans ?_
      rfl
  · obtain rfl := hA.kk hk hkc ek
    rw [e7, e5] at h75
    exact Or.inr ⟨fun q => h75 ⟨q.1, q.2.1⟩, ht⟩
  · exact chest_in hA hm hk hc
theorem empty_bad (hA : alk x v) {cn : Int32} (hc : ¬ (0 ≤ cn ∧ cn < x 3 ∧ cn < 20)) (hR : R_X8_empties t v cn r t' v') : t' 1 = 1 := by
  rcases hR with ⟨kc, ek, hm, hkc, h⟩ | ⟨kc, a, b, ek, hm, hkc, h⟩ | ⟨kc, t2, ek, hm, hkc, h⟩ | ⟨-, h⟩
  · exact chest_bad hA hc ek hm hkc
  · exact chest_bad hA hc ek hm hkc
  · exact chest_bad hA hc ek hm hkc
  · exact h
theorem fill_eq (hA : alk x v) (hx : hok x) (hm : nI k < x 3) (hk : k < 20) {ga ki po : Int32} (hl : isLeafB ga ki = true) (hp : 1 ≤ po ∧ po ≤ 50) (hR : R_X8_fills t v (nI k) ga ki po r t' v') : (fillOk x k ga ki po ∧ t' 1 = t 1 ∧ r = some (.int (cRoom (row (fillX x k ga ki po) k))) ∧ alk (fillX x k ga ki po) v' ∧ v' (28 + 9 * k + 8) = 0 ∧ fillX x k ga ki po 3 = x 3 ∧ ∀ i, i < 20 → i ≠ k → (∀ j, 0 < j → j < 4 → fillX x k ga ki po (28 + 9 * i + j) = x (28 + 9 * i + j)) ∧ v' (28 + 9 * i + 8) = v (28 + 9 * i + 8)) ∨ (¬ fillOk x k ga ki po ∧ t' 1 = 3) := by
  obtain ⟨a, b, ha, hb, rfl, rfl⟩ := isLeafB_nat hl
  have e0 := hA.row hm hk (j := 0) (by omega)
  have e1 := hA.row hm hk (j := 1) (by omega)
  have e2 := hA.row hm hk (j := 2) (by omega)
  have e3 := hA.row hm hk (j := 3) (by omega)
  have e5 := hA.row hm hk (j := 5) (by omega)
  have e7 := hA.row hm hk (j := 7) (by omega)
  have f1 := hA.at (q := 10 + 3 * a + b) (by omega)
  have ex : fillX x k (nI a) (nI b) po = upd (upd (upd (upd x (10 + 3 * a + b) (x (10 + 3 * a + b) - po)) (28 + 9 * k + 1) (nI a)) (28 + 9 * k + 2) (nI b)) (28 + 9 * k + 3) (x (28 + 9 * k + 3) + po) := by
    unfold fillX cPut
    rw [sAdd_n ha hb, setRow_upd (by omega), setRow_upd (by omega), setRow_upd (by omega), setRow_self, ← Int32.sub_eq_add_neg]
    have : row (upd x (10 + 3 * a + b) (x (10 + 3 * a + b) - po)) k 3 = x (28 + 9 * k + 3) := if_neg (by omega)
    rw [this]
  have g3 : ∀ y : Nat → Int32, ∀ z1 z2 z3, (upd (upd (upd y (10 + 3 * a + b) z1) (28 + 9 * k + 1) z2) (28 + 9 * k + 2) z3) (28 + 9 * k + 3) = y (28 + 9 * k + 3) := fun y z1 z2 z3 => (if_neg (by omega)).trans ((if_neg (by omega)).trans (if_neg (by omega)))
  have good : ∀ {v' : Nat → Int32}, v' = upd (upd (upd (upd (upd v (10 + 3 * a + b) (v (10 + 3 * a + b) - po)) (28 + 9 * k + 1) (nI a)) (28 + 9 * k + 2) (nI b)) (28 + 9 * k + 3) ((upd (upd (upd v (10 + 3 * a + b) (v (10 + 3 * a + b) - po)) (28 + 9 * k + 1) (nI a)) (28 + 9 * k + 2) (nI b)) (28 + 9 * k + 3) + po)) (28 + 9 * k + 8) 0 → alk (fillX x k (nI a) (nI b) po) v' ∧ v' (28 + 9 * k + 8) = 0 ∧ fillX x k (nI a) (nI b) po 3 = x 3 ∧ ∀ i, i < 20 → i ≠ k → (∀ j, 0 < j → j < 4 → fillX x k (nI a) (nI b) po (28 + 9 * i + j) = x (28 + 9 * i + j)) ∧ v' (28 + 9 * i + 8) = v (28 + 9 * i + 8) := by
    intro v' hv
    rw [g3, e3, f1] at hv
    refine ⟨?_, by rw [hv]; exact if_pos rfl, ?_, fun i hi hik => ⟨fun j h0 hj => ?_, ?_⟩⟩
    · rw [ex, hv]
      exact ((((hA.lo (by omega) (by omega)).ro (by repeat (first | exact hm | refine lt_up ?_ (by omega))) hk (by omega) (by omega)).ro (by repeat (first | exact hm | refine lt_up ?_ (by omega))) hk (by omega) (by omega)).ro (by repeat (first | exact hm | refine lt_up ?_ (by omega))) hk (by omega) (by omega)).lab
    · rw [ex]
      iterate 4 refine (if_neg (by omega)).trans ?_
      rfl
    · rw [ex]
      iterate 4 refine (if_neg (by omega)).trans ?_
      rfl
    · rw [hv]
      iterate 5 refine (if_neg (by omega)).trans ?_
      rfl
  have hrr : cRoom (row (fillX x k (nI a) (nI b) po) k) = 10 * x (28 + 9 * k + 0) - x (28 + 9 * k + 3) - po := by
    have r0 : row (fillX x k (nI a) (nI b) po) k 0 = x (28 + 9 * k + 0) := by
      rw [ex]
      show upd _ _ _ (28 + 9 * k + 0) = _
      iterate 4 refine (if_neg (by omega)).trans ?_
      rfl
    have r3 : row (fillX x k (nI a) (nI b) po) k 3 = x (28 + 9 * k + 3) + po := by
      rw [ex]
      exact if_pos rfl
    unfold cRoom
    rw [r0, r3, Int32.sub_eq_add_neg, Int32.neg_add, Int32.sub_eq_add_neg, Int32.sub_eq_add_neg, ← Int32.add_assoc, Int32.sub_eq_add_neg]
  have hro : cRoom (row x k) = 10 * x (28 + 9 * k + 0) - x (28 + 9 * k + 3) := rfl
  unfold fillOk
  rw [sGet_n ha hb, hro, hrr]
  rcases hR with ⟨kc, a2, b2, ek, -, hkc, ea, eb, ha2, hb2, -, h7, h5, h3, hrm, hpo, ht, hr, hv⟩ | ⟨kc, a2, b2, ek, -, hkc, ea, eb, ha2, hb2, -, h7, h5, h3, hrm, hpo, ht⟩ | ⟨kc, a2, b2, ek, -, hkc, ea, eb, ha2, hb2, -, h7, h5, h3, hrm, ht⟩ | ⟨kc, a2, b2, ek, -, hkc, ea, eb, ha2, hb2, -, h7, h5, h3, hga, ht⟩ | ⟨kc, a2, b2, ek, -, hkc, ea, eb, ha2, hb2, -, h7, h5, h3, hga, hki, hrm, hpo, ht, hr, hv⟩ | ⟨kc, a2, b2, ek, -, hkc, ea, eb, ha2, hb2, -, h7, h5, h3, hga, hki, hrm, hpo, ht⟩ | ⟨kc, a2, b2, ek, -, hkc, ea, eb, ha2, hb2, -, h7, h5, h3, hga, hki, hrm, ht⟩ | ⟨kc, a2, b2, ek, -, hkc, ea, eb, ha2, hb2, -, h7, h5, h3, hga, hki, ht⟩ | ⟨kc, a2, b2, t5, ek, -, hkc, ea, eb, ha2, hb2, -, h75, -, ht⟩ | ⟨kc, a2, b2, ek, -, hkc, ea, eb, ha2, hb2, hp2, ht⟩ | ⟨kc, ek, -, hkc, hl2, ht⟩ | ⟨hc, -⟩
  · obtain rfl := hA.kk hk hkc ek
    obtain ⟨rfl, rfl⟩ := leaf_uq ea eb ha hb ha2 hb2
    rw [e7] at h7
    rw [e5] at h5
    rw [e3] at h3
    rw [e0, e3] at hrm hr
    rw [f1] at hpo
    exact Or.inl ⟨⟨h7, h5, Or.inl h3, hrm, hpo⟩, ht, hr, good hv⟩
  · obtain rfl := hA.kk hk hkc ek
    obtain ⟨rfl, rfl⟩ := leaf_uq ea eb ha hb ha2 hb2
    rw [f1] at hpo
    exact Or.inr ⟨fun q => hpo q.2.2.2.2, ht⟩
  · obtain rfl := hA.kk hk hkc ek
    rw [e0, e3] at hrm
    exact Or.inr ⟨fun q => hrm q.2.2.2.1, ht⟩
  · obtain rfl := hA.kk hk hkc ek
    obtain ⟨rfl, rfl⟩ := leaf_uq ea eb ha hb ha2 hb2
    rw [e3] at h3
    rw [e1] at hga
    exact Or.inr ⟨fun q => q.2.2.1.elim h3 (fun z => hga z.1), ht⟩
  · obtain rfl := hA.kk hk hkc ek
    obtain ⟨rfl, rfl⟩ := leaf_uq ea eb ha hb ha2 hb2
    rw [e7] at h7
    rw [e5] at h5
    rw [e1] at hga
    rw [e2] at hki
    rw [e0, e3] at hrm hr
    rw [f1] at hpo
    exact Or.inl ⟨⟨h7, h5, Or.inr ⟨hga, hki⟩, hrm, hpo⟩, ht, hr, good hv⟩
  · obtain rfl := hA.kk hk hkc ek
    obtain ⟨rfl, rfl⟩ := leaf_uq ea eb ha hb ha2 hb2
    rw [f1] at hpo
    exact Or.inr ⟨fun q => hpo q.2.2.2.2, ht⟩
  · obtain rfl := hA.kk hk hkc ek
    rw [e0, e3] at hrm
    exact Or.inr ⟨fun q => hrm q.2.2.2.1, ht⟩
  · obtain rfl := hA.kk hk hkc ek
    obtain ⟨rfl, rfl⟩ := leaf_uq ea eb ha hb ha2 hb2
    rw [e3] at h3
    rw [e2] at hki
    exact Or.inr ⟨fun q => q.2.2.1.elim h3 (fun z => hki z.2), ht⟩
  · obtain rfl := hA.kk hk hkc ek
    rw [e7, e5] at h75
    exact Or.inr ⟨fun q => h75 ⟨q.1, q.2.1⟩, ht⟩
  · exact absurd hp hp2
  · rw [isLeafB_n ha hb] at hl2
    exact absurd hl2 (by decide)
  · exact chest_in hA hm hk hc
theorem fill_bad (hA : alk x v) {cn ga ki po : Int32} (hR : R_X8_fills t v cn ga ki po r t' v') : (¬ (0 ≤ cn ∧ cn < x 3 ∧ cn < 20) → t' 1 = 1) ∧ (¬ isLeafB ga ki = true → t' 1 = 1) ∧ (∀ k, k < 20 → cn = nI k → nI k < x 3 → isLeafB ga ki = true → ¬ (1 ≤ po ∧ po ≤ 50) → t' 1 = 2) := by
  have key : ∀ {kc a b : Nat}, cn = nI kc → nI kc < v 3 → kc < 20 → ga = nI a → ki = nI b → a < 6 → b < 3 → (1 ≤ po ∧ po ≤ 50) → (¬ (0 ≤ cn ∧ cn < x 3 ∧ cn < 20) → t' 1 = 1) ∧ (¬ isLeafB ga ki = true → t' 1 = 1) ∧ (∀ k, k < 20 → cn = nI k → nI k < x 3 → isLeafB ga ki = true → ¬ (1 ≤ po ∧ po ≤ 50) → t' 1 = 2) := by
    intro kc a b ek hm hkc ea eb ha hb hp
    exact ⟨fun hc => chest_bad hA hc ek hm hkc, fun q => absurd (by rw [ea, eb]; exact isLeafB_n ha hb) q, fun _ _ _ _ _ q => absurd hp q⟩
  rcases hR with ⟨kc, a2, b2, ek, hm, hkc, ea, eb, ha2, hb2, hp, -⟩ | ⟨kc, a2, b2, ek, hm, hkc, ea, eb, ha2, hb2, hp, -⟩ | ⟨kc, a2, b2, ek, hm, hkc, ea, eb, ha2, hb2, hp, -⟩ | ⟨kc, a2, b2, ek, hm, hkc, ea, eb, ha2, hb2, hp, -⟩ | ⟨kc, a2, b2, ek, hm, hkc, ea, eb, ha2, hb2, hp, -⟩ | ⟨kc, a2, b2, ek, hm, hkc, ea, eb, ha2, hb2, hp, -⟩ | ⟨kc, a2, b2, ek, hm, hkc, ea, eb, ha2, hb2, hp, -⟩ | ⟨kc, a2, b2, ek, hm, hkc, ea, eb, ha2, hb2, hp, -⟩ | ⟨kc, a2, b2, t5, ek, hm, hkc, ea, eb, ha2, hb2, hp, -⟩ | ⟨kc, a2, b2, ek, hm, hkc, ea, eb, ha2, hb2, hp2, ht⟩ | ⟨kc, ek, hm, hkc, hl2, ht⟩ | ⟨hc, ht⟩
  · exact key ek hm hkc ea eb ha2 hb2 hp
  · exact key ek hm hkc ea eb ha2 hb2 hp
  · exact key ek hm hkc ea eb ha2 hb2 hp
  · exact key ek hm hkc ea eb ha2 hb2 hp
  · exact key ek hm hkc ea eb ha2 hb2 hp
  · exact key ek hm hkc ea eb ha2 hb2 hp
  · exact key ek hm hkc ea eb ha2 hb2 hp
  · exact key ek hm hkc ea eb ha2 hb2 hp
  · exact key ek hm hkc ea eb ha2 hb2 hp
  · exact ⟨fun hc => chest_bad hA hc ek hm hkc, fun q => absurd (by rw [ea, eb]; exact isLeafB_n ha2 hb2) q, fun _ _ _ _ _ _ => ht⟩
  · exact ⟨fun _ => ht, fun _ => ht, fun _ _ _ _ q _ => by rw [hl2] at q; exact absurd q (by decide)⟩
  · exact ⟨fun _ => ht, fun _ => ht, fun k hk e hm _ _ => by subst e; exact chest_in hA hm hk hc⟩
theorem make_eq (hA : alk x v) {n : Nat} (hn : n ≤ 20) (e3 : x 3 = nI n) {si : Int32} (hp : 1 ≤ si ∧ si ≤ 5) (hR : R_X8_makes t v si r t' v') : (n < 20 ∧ t' 1 = t 1 ∧ r = some (.int (nI n)) ∧ alk (makeX x n si) v' ∧ v' (28 + 9 * n + 8) = 0 ∧ (makeX x n si 3 = nI (n + 1)) ∧ ∀ i, i < 20 → i ≠ n → (∀ j, 0 < j → j < 4 → makeX x n si (28 + 9 * i + j) = x (28 + 9 * i + j)) ∧ v' (28 + 9 * i + 8) = v (28 + 9 * i + 8)) ∨ (n = 20 ∧ t' 1 = 3) := by
  have f3 := hA.at (q := 3) (by omega)
  rcases hR with ⟨n2, nq, v1, -, hn2, h20, hne, hnq, hq20, hlo, hro, ht, hr, hv⟩ | ⟨n2, -, hn2, h20, he, ht⟩ | ⟨h, -⟩
  · obtain rfl : n = nq := (nI_eq (by omega) (by omega)).mp (by rw [← e3, ← f3, hnq])
    have k3 : v1 3 = nI n := (hlo 3 (by omega)).trans hnq
    have kk : upd (upd (upd v1 (28 + 9 * n + 0) si) (28 + 9 * n + 1) (-1)) (28 + 9 * n + 2) (-1) 3 + 1 = nI (n + 1) := by
      have : upd (upd (upd v1 (28 + 9 * n + 0) si) (28 + 9 * n + 1) (-1)) (28 + 9 * n + 2) (-1) 3 = nI n := (if_neg (by omega)).trans ((if_neg (by omega)).trans ((if_neg (by omega)).trans k3))
      rw [this, nI_1]
    rw [kk] at hv
    have vlo : ∀ q, (q < 28 + 9 * n ∨ 28 + 9 * n + 9 ≤ q) → q ≠ 3 → v' q = v q := by
      intro q hq h3
      rw [hv]
      refine (if_neg h3).trans ((if_neg (by omega)).trans ((if_neg (by omega)).trans ((if_neg (by omega)).trans (hlo q hq))))
    have v3 : v' 3 = nI (n + 1) := by rw [hv]; exact if_pos rfl
    have v0 : v' (28 + 9 * n + 0) = si := by rw [hv]; exact (if_neg (by omega)).trans ((if_neg (by omega)).trans ((if_neg (by omega)).trans (if_pos rfl)))
    have v1' : v' (28 + 9 * n + 1) = -1 := by rw [hv]; exact (if_neg (by omega)).trans ((if_neg (by omega)).trans (if_pos rfl))
    have v2 : v' (28 + 9 * n + 2) = -1 := by rw [hv]; exact (if_neg (by omega)).trans (if_pos rfl)
    have vj : ∀ j, 2 < j → j < 9 → v' (28 + 9 * n + j) = 0 := by
      intro j h2 hj
      rw [hv]
      exact (if_neg (by omega)).trans ((if_neg (by omega)).trans ((if_neg (by omega)).trans ((if_neg (by omega)).trans (hro j hj))))
    have x3 : makeX x n si 3 = nI (n + 1) := by
      unfold makeX
      exact if_pos rfl
    have xq : ∀ q, q ≠ 3 → q ≠ 28 + 9 * n + 0 → q ≠ 28 + 9 * n + 7 → makeX x n si q = x q := fun q h1 h2 h3 => by
      unfold makeX upd
      rw [if_neg h1, if_neg h3, if_neg h2]
    have x0 : makeX x n si (28 + 9 * n + 0) = si := by
      unfold makeX upd
      rw [if_neg (by omega), if_neg (by omega), if_pos rfl]
    have x7 : makeX x n si (28 + 9 * n + 7) = 0 := by
      unfold makeX upd
      rw [if_neg (by omega), if_pos rfl]
    have bl := fun {j : Nat} (hj : j < 8) => hA.blank hn e3 (Nat.le_refl n) hq20 hj
    refine Or.inl ⟨hq20, ht, hr, ⟨fun q hq => ?_, ⟨n + 1, by omega, x3, fun k hk j hj => ?_, fun k hk h20 j hj => ?_⟩, fun k hk => ?_⟩, vj 8 (by omega) (by omega), x3, fun i hi hin => ⟨fun j h0 hj => xq _ (by omega) (by omega) (by omega), vlo _ (by omega) (by omega)⟩⟩
    · by_cases e : q = 3
      · subst e; rw [x3, v3]
      · rw [xq q e (by omega) (by omega), vlo q (by omega) e]; exact hA.1 q hq
    · by_cases e : k = n
      · subst e
        have : j = 0 ∨ j = 1 ∨ j = 2 ∨ j = 7 ∨ ((j = 3 ∨ j = 4 ∨ j = 5 ∨ j = 6) ∧ blankC j = 0) := by
          rcases (show j = 0 ∨ j = 1 ∨ j = 2 ∨ j = 3 ∨ j = 4 ∨ j = 5 ∨ j = 6 ∨ j = 7 by omega) with rfl | rfl | rfl | rfl | rfl | rfl | rfl | rfl
          all_goals first | omega | exact Or.inr (Or.inr (Or.inr (Or.inr ⟨by omega, by decide⟩)))
        rcases this with rfl | rfl | rfl | rfl | ⟨h, hb⟩
        · rw [x0, v0]
        · rw [xq _ (by omega) (by omega) (by omega), v1', bl (by omega)]; rfl
        · rw [xq _ (by omega) (by omega) (by omega), v2, bl (by omega)]; rfl
        · rw [x7, vj _ (by omega) (by omega)]
        · rw [xq _ (by omega) (by omega) (by omega), vj _ (by omega) (by omega), bl (by omega)]; exact hb
      · rw [xq _ (by omega) (by omega) (by omega), vlo _ (by omega) (by omega)]
        exact (hA.row (hA.lt hn e3 (k := k) (by omega)) (by omega) hj).symm
    · rw [xq _ (by omega) (by omega) (by omega)]
      exact hA.blank hn e3 (by omega) h20 hj
    · refine ⟨by rw [xq _ (by omega) (by omega) (by omega)]; exact (hA.2.2 k hk).1, fun p => ?_⟩
      by_cases e : k = n
      · subst e
        rw [x7]
        decide
      · rw [xq _ (by omega) (by omega) (by omega)]
        refine (hA.2.2 k hk).2 (hA.lt hn e3 ?_)
        rw [x3] at p
        have := (nI_ltI (by omega) (by omega)).mp p
        omega
  · have : n = n2 := (nI_eq (by omega) (by omega)).mp (by rw [← e3, ← f3, hn2])
    subst this
    exact Or.inr ⟨(nI_eq (b := 20) (by omega) (by omega)).mp he, ht⟩
  · exact absurd hp h
theorem make_bad {si : Int32} (hp : ¬ (1 ≤ si ∧ si ≤ 5)) (hR : R_X8_makes t v si r t' v') : t' 1 = 2 := by
  rcases hR with ⟨n2, nq, v1, h, -⟩ | ⟨n2, h, -⟩ | ⟨-, h⟩
  · exact absurd h hp
  · exact absurd h hp
  · exact h
theorem damp_pos (hA : alk x v) (hk : k < 20) : (1 ≤ x (28 + 9 * k + 6)) ↔ ¬ x (28 + 9 * k + 6) ≤ 0 := by
  obtain ⟨d, hd, e⟩ := (hA.2.2 k hk).1
  rw [e, show (1 : Int32) = nI 1 from rfl, show (0 : Int32) = nI 0 from rfl, nI_leI (by omega) (by omega), nI_leI (by omega) (by omega)]
  omega
theorem label_eq (hA : alk x v) (hx : hok x) (hm : nI k < x 3) (hk : k < 20) (hR : R_X8_labels t v (nI k) r t' v') : (labelOk x k ∧ t' 1 = t 1 ∧ v' = upd v (28 + 9 * k + 8) (if decide (1 ≤ x (28 + 9 * k + 6)) = true then 2 else 1)) ∨ (¬ labelOk x k ∧ t' 1 = 3) := by
  have e3 := hA.row hm hk (j := 3) (by omega)
  have e6 := hA.row hm hk (j := 6) (by omega)
  have e7 := hA.row hm hk (j := 7) (by omega)
  have hpo := hx.po hk
  have hd := damp_pos hA hk
  unfold labelOk
  rcases hR with ⟨kc, ek, -, hkc, h7, h3, ht⟩ | ⟨kc, t9, ek, -, hkc, h7, h3, h6, -, ht, -, hv⟩ | ⟨kc, t9, ek, -, hkc, h7, h3, h6, -, ht, -, hv⟩ | ⟨kc, ek, -, hkc, h7, ht⟩ | ⟨hc, -⟩
  · obtain rfl := hA.kk hk hkc ek
    rw [e3] at h3
    exact Or.inr ⟨fun q => hpo.mp q.2 h3, ht⟩
  · obtain rfl := hA.kk hk hkc ek
    rw [e3] at h3
    rw [e7] at h7
    rw [e6] at h6
    refine Or.inl ⟨⟨h7, hpo.mpr h3⟩, ht, ?_⟩
    rw [hv, if_neg (fun q => hd.mp (of_decide_eq_true q) h6)]
  · obtain rfl := hA.kk hk hkc ek
    rw [e3] at h3
    rw [e7] at h7
    rw [e6] at h6
    refine Or.inl ⟨⟨h7, hpo.mpr h3⟩, ht, ?_⟩
    rw [hv, if_pos (decide_eq_true (hd.mpr h6))]
  · obtain rfl := hA.kk hk hkc ek
    rw [e7] at h7
    exact Or.inr ⟨fun q => h7 q.1, ht⟩
  · exact chest_in hA hm hk hc
theorem label_bad (hA : alk x v) {cn : Int32} (hc : ¬ (0 ≤ cn ∧ cn < x 3 ∧ cn < 20)) (hR : R_X8_labels t v cn r t' v') : t' 1 = 1 := by
  rcases hR with ⟨kc, ek, hm, hkc, h⟩ | ⟨kc, t2, ek, hm, hkc, h⟩ | ⟨kc, t2, ek, hm, hkc, h⟩ | ⟨kc, ek, hm, hkc, h⟩ | ⟨-, h⟩
  · exact chest_bad hA hc ek hm hkc
  · exact chest_bad hA hc ek hm hkc
  · exact chest_bad hA hc ek hm hkc
  · exact chest_bad hA hc ek hm hkc
  · exact h
theorem quay_eq (hA : alk x v) (hx : hok x) (hm : nI k < x 3) (hk : k < 20) {ln : Nat → Nat} (hln : ln k ≠ 0 ↔ ¬ v (28 + 9 * k + 8) = 0) (hR : R_X8_goesOut t v (nI k) r t' v') : (quayOk x ln k ∧ t' 1 = t 1 ∧ r = some (.int (nAt (quayX x k) 1 20)) ∧ alk (quayX x k) v' ∧ lks x v (quayX x k) v') ∨ (¬ quayOk x ln k ∧ t' 1 = 3) := by
  have e3 := hA.row hm hk (j := 3) (by omega)
  have e7 := hA.row hm hk (j := 7) (by omega)
  have hpo := hx.po hk
  have hT := tight_eq hA hx hm hk
  obtain ⟨n, hn, en⟩ := hA.num
  unfold quayOk readyOk
  rcases hR with ⟨kc, ek, -, hkc, h7, h3, ht⟩ | ⟨kc, m, ek, -, hkc, h7, h3, h9, h8, hm20, em, ht, hr, hv⟩ | ⟨kc, ek, -, hkc, h7, h3, h9, h8, ht⟩ | ⟨kc, ek, -, hkc, h7, h3, h9, ht⟩ | ⟨kc, ek, -, hkc, h7, ht⟩ | ⟨hc, -⟩
  · obtain rfl := hA.kk hk hkc ek
    rw [e3] at h3
    exact Or.inr ⟨fun q => hpo.mp q.2.1 h3, ht⟩
  · obtain rfl := hA.kk hk hkc ek
    rw [e3] at h3
    rw [e7] at h7
    have hA2 : alk (quayX x k) (upd v (28 + 9 * k + 7) 1) := hA.ro hm hk (by omega) (by omega)
    have en2 : quayX x k 3 = nI n := by
      unfold quayX
      exact (if_neg (by omega)).trans en
    obtain rfl : m = n := (nI_eq (by omega) (by omega)).mp (by rw [← em, ← en]; exact (if_neg (by omega)).trans (hA.at (by omega)))
    refine Or.inl ⟨⟨h7, hpo.mpr h3, hT.mp h9, hln.mpr h8⟩, ht, ?_, ?_, ?_⟩
    · rw [hr, nAt_eq hA2 hn en2 (by decide)]
    · rw [hv]; exact hA2
    · rw [hv]; exact lks.rf.up (Or.inr ⟨k, 7, hk, by omega, rfl⟩) (Or.inr ⟨k, 7, hk, by omega, rfl⟩)
  · obtain rfl := hA.kk hk hkc ek
    exact Or.inr ⟨fun q => hln.mp q.2.2.2 h8, ht⟩
  · obtain rfl := hA.kk hk hkc ek
    exact Or.inr ⟨fun q => h9 (hT.mpr q.2.2.1), ht⟩
  · obtain rfl := hA.kk hk hkc ek
    rw [e7] at h7
    exact Or.inr ⟨fun q => h7 q.1, ht⟩
  · exact chest_in hA hm hk hc
theorem quay_bad (hA : alk x v) {cn : Int32} (hc : ¬ (0 ≤ cn ∧ cn < x 3 ∧ cn < 20)) (hR : R_X8_goesOut t v cn r t' v') : t' 1 = 1 := by
  rcases hR with ⟨kc, ek, hm, hkc, h⟩ | ⟨kc, m, ek, hm, hkc, h⟩ | ⟨kc, ek, hm, hkc, h⟩ | ⟨kc, ek, hm, hkc, h⟩ | ⟨kc, ek, hm, hkc, h⟩ | ⟨-, h⟩
  · exact chest_bad hA hc ek hm hkc
  · exact chest_bad hA hc ek hm hkc
  · exact chest_bad hA hc ek hm hkc
  · exact chest_bad hA hc ek hm hkc
  · exact chest_bad hA hc ek hm hkc
  · exact h
theorem load_eq (hA : alk x v) (hm : nI k < x 3) (hk : k < 20) (hR : R_X8_loads t v (nI k) r t' v') : (loadOk x k ∧ t' 1 = t 1 ∧ r = some (.int (hRoom (loadX x k) 20)) ∧ alk (loadX x k) v' ∧ lks x v (loadX x k) v') ∨ (¬ loadOk x k ∧ t' 1 = 3) := by
  have e0 := hA.row hm hk (j := 0) (by omega)
  have e7 := hA.row hm hk (j := 7) (by omega)
  have f0 := hA.at (q := 0) (by omega)
  obtain ⟨n, hn, en⟩ := hA.num
  have f3 := hA.at (q := 3) (by omega)
  have hro := hRoom_eq hA hn en
  unfold loadOk
  rw [tide_0, hro]
  rcases hR with ⟨kc, m4, m7, ek, -, hkc, h7, hh, hm4, em4, hrm, hm7, em7, ht, hr, hv⟩ | ⟨kc, m4, m8, ek, -, hkc, h7, hh, hm4, em4, hrm, -, -, ht⟩ | ⟨kc, ek, -, hkc, h7, hh, ht⟩ | ⟨kc, ek, -, hkc, h7, ht⟩ | ⟨hc, -⟩
  · obtain rfl := hA.kk hk hkc ek
    rw [e7] at h7
    rw [f0] at hh
    obtain rfl : m4 = n := (nI_eq (by omega) (by omega)).mp (by rw [← em4, ← en, f3])
    rw [e0] at hrm
    have hA2 : alk (loadX x k) (upd v (28 + 9 * k + 7) 2) := hA.ro hm hk (by omega) (by omega)
    have en2 : loadX x k 3 = nI m4 := by
      unfold loadX
      exact (if_neg (by omega)).trans en
    have em8 : v 3 = nI m7 := by
      rw [← em7]
      exact (if_neg (by omega)).symm
    obtain rfl : m7 = m4 := (nI_eq (by omega) (by omega)).mp (em8.symm.trans em4)
    refine Or.inl ⟨⟨h7, hh, hrm⟩, ht, ?_, ?_, ?_⟩
    · rw [hr, hRoom_eq hA2 hn en2]
    · rw [hv]; exact hA2
    · rw [hv]; exact lks.rf.up (Or.inr ⟨k, 7, hk, by omega, rfl⟩) (Or.inr ⟨k, 7, hk, by omega, rfl⟩)
  · obtain rfl := hA.kk hk hkc ek
    obtain rfl : m4 = n := (nI_eq (by omega) (by omega)).mp (by rw [← em4, ← en, f3])
    rw [e0] at hrm
    exact Or.inr ⟨fun q => hrm q.2.2, ht⟩
  · rw [f0] at hh
    exact Or.inr ⟨fun q => hh q.2.1, ht⟩
  · obtain rfl := hA.kk hk hkc ek
    rw [e7] at h7
    exact Or.inr ⟨fun q => h7 q.1, ht⟩
  · exact chest_in hA hm hk hc
theorem load_bad (hA : alk x v) {cn : Int32} (hc : ¬ (0 ≤ cn ∧ cn < x 3 ∧ cn < 20)) (hR : R_X8_loads t v cn r t' v') : t' 1 = 1 := by
  rcases hR with ⟨kc, m, m2, ek, hm, hkc, h⟩ | ⟨kc, m, m2, ek, hm, hkc, h⟩ | ⟨kc, ek, hm, hkc, h⟩ | ⟨kc, ek, hm, hkc, h⟩ | ⟨-, h⟩
  · exact chest_bad hA hc ek hm hkc
  · exact chest_bad hA hc ek hm hkc
  · exact chest_bad hA hc ek hm hkc
  · exact chest_bad hA hc ek hm hkc
  · exact h
theorem sail_up (hA : alk x v) {n : Nat} (hn : n ≤ 20) (e3 : x 3 = nI n) : ∀ m, m ≤ n → alk (sailAll x m) (sailR v m) ∧ sailAll x m 3 = nI n ∧ lks x v (sailAll x m) (sailR v m) := by
  intro m
  induction m with
  | zero => intro _; exact ⟨hA, e3, lks.rf⟩
  | succ m ih =>
    intro hm
    obtain ⟨i1, i2, i3⟩ := ih (by omega)
    have hmm : nI m < sailAll x m 3 := by rw [i2]; exact nI_lt hm (by omega)
    have e7 := i1.row hmm (by omega) (j := 7) (by omega)
    have ep := i1.row hmm (by omega) (j := 3) (by omega)
    unfold sailAll sailR
    rw [e7]
    split
    · have a1 : upd (sailR v m) (28 + 9 * m + 7) 3 7 = sailAll x m 7 := (if_neg (by omega)).trans (i1.at (by omega))
      have a2 : upd (sailR v m) (28 + 9 * m + 7) 3 (28 + 9 * m + 3) = sailAll x m (28 + 9 * m + 3) := (if_neg (by omega)).trans ep
      rw [a1, a2]
      refine ⟨(i1.ro hmm (by omega) (by omega) (by omega)).lo (by omega) (by omega), (if_neg (by omega)).trans ((if_neg (by omega)).trans i2), (i3.up (Or.inr ⟨m, 7, by omega, by omega, rfl⟩) (Or.inr ⟨m, 7, by omega, by omega, rfl⟩)).up (by omega) (by omega)⟩
    · exact ⟨i1, i2, i3⟩
theorem sail_hi {n : Nat} (hb : ∀ k, n ≤ k → k < 20 → ¬ x (28 + 9 * k + 7) = 2) : ∀ m, n + m ≤ 20 → (∀ i, n ≤ i → i < 20 → sailAll x n (28 + 9 * i + 7) = x (28 + 9 * i + 7)) → sailAll x (n + m) = sailAll x n := by
  intro m hm ho
  induction m with
  | zero => rfl
  | succ m ih =>
    have i := ih (by omega)
    have e : sailAll x (n + (m + 1)) = sailAll x (n + m) := by
      show (if sailAll x (n + m) (28 + 9 * (n + m) + 7) = 2 then _ else _) = _
      have h7 : sailAll x (n + m) (28 + 9 * (n + m) + 7) = x (28 + 9 * (n + m) + 7) := by rw [i, ho (n + m) (by omega) (by omega)]
      exact if_neg (by rw [h7]; exact hb (n + m) (by omega) (by omega))
    rw [e, i]
theorem sailAll_o : ∀ (n : Nat) (i j : Nat), n ≤ i → sailAll x n (28 + 9 * i + j) = x (28 + 9 * i + j) := by
  intro n
  induction n with
  | zero => intro i j _; rfl
  | succ n ih =>
    intro i j hi
    unfold sailAll
    split
    · exact (if_neg (by omega)).trans ((if_neg (by omega)).trans (ih i j (by omega)))
    · exact ih i j (by omega)
theorem sail_all (hA : alk x v) {n : Nat} (hn : n ≤ 20) (e3 : x 3 = nI n) : alk (sailAll x 20) (sailR v n) ∧ lks x v (sailAll x 20) (sailR v n) := by
  have h := sail_hi (x := x) (n := n) (fun k h1 h2 => by rw [hA.blank hn e3 h1 h2 (j := 7) (by omega)]; decide) (20 - n) (by omega) (fun i h1 h2 => sailAll_o n i 7 h1)
  rw [show n + (20 - n) = 20 by omega] at h
  rw [h]
  obtain ⟨h1, h2, h3⟩ := sail_up hA hn e3 n (Nat.le_refl n)
  exact ⟨h1, h3⟩
theorem upd_comm {f : Nat → Int32} {i j : Nat} {a b : Int32} (h : i ≠ j) : upd (upd f i a) j b = upd (upd f j b) i a := by
  funext q
  show (if q = j then b else if q = i then a else f q) = if q = i then a else if q = j then b else f q
  by_cases e : q = j
  · rw [if_pos e, if_neg (by omega), if_pos e]
  · rw [if_neg e, if_neg e]
theorem sailAll_4 (x : Nat → Int32) (z : Int32) : ∀ n, sailAll (upd x 4 z) n = upd (sailAll x n) 4 z := by
  intro n
  induction n with
  | zero => rfl
  | succ n ih =>
    have c : ∀ y : Nat → Int32, ∀ i, i ≠ 4 → upd y 4 z i = y i := fun y i hi => if_neg hi
    show (if sailAll (upd x 4 z) n (28 + 9 * n + 7) = 2 then _ else _) = upd (if _ then _ else _) 4 z
    rw [ih, c _ _ (by omega), c _ 7 (by omega), c _ _ (by omega)]
    split
    · rw [upd_comm (i := 4) (by omega), upd_comm (i := 4) (by omega)]
    · rfl
theorem sail_eq (hA : alk x v) (hR : R_X8_sails t v r t' v') : (sailOk x ∧ t' 1 = t 1 ∧ r = some (.int (cargoN x 20)) ∧ alk (sailX x) v' ∧ lks x v (sailX x) v') ∨ (¬ sailOk x ∧ t' 1 = 3) := by
  obtain ⟨n, hn, en⟩ := hA.num
  have f3 := hA.at (q := 3) (by omega)
  have f0 := hA.at (q := 0) (by omega)
  have hnat := nAt_eq hA hn en (wh := 2) (by decide)
  have un : ∀ {m : Nat}, m ≤ 20 → v 3 = nI m → m = n := fun h1 h2 => (nI_eq (by omega) (by omega)).mp (by rw [← h2, ← en, f3])
  unfold sailOk
  rw [tide_0, hnat]
  rcases hR with ⟨m1, m4, co, i, tl, vl, h1, e1, h2, hh, h4, e4, hco, ei, hi, -, -, hvl, ht, hr, hv⟩ | ⟨m1, h1, e1, h2, hh, ht⟩ | ⟨m1, h1, e1, h2, ht⟩
  · obtain rfl := un h1 e1
    obtain rfl := un h4 e4
    obtain rfl := un hi ei
    obtain ⟨a1, a2⟩ := sail_all hA h1 en
    rw [f0] at hh
    have x4 : ∀ m, sailAll x m 4 = x 4 := by
      intro m
      induction m with
      | zero => rfl
      | succ m ih =>
        unfold sailAll
        split
        · exact (if_neg (by omega)).trans ((if_neg (by omega)).trans ih)
        · exact ih
    have x4 := x4 20
    have hS4 := sailAll_4 x (x 4 + cargoN x 20) 20
    have ex : sailX x = upd (sailAll (upd x 4 (x 4 + cargoN x 20)) 20) 9 (sailAll (upd x 4 (x 4 + cargoN x 20)) 20 9 + 1) := rfl
    generalize sailAll x 20 = S at a1 a2 x4 hS4
    rw [hS4, ← x4, show upd S 4 (S 4 + cargoN x 20) 9 = S 9 from if_neg (by omega)] at ex
    have ev : upd (upd vl 9 (vl 9 + 1)) 4 (vl 4 + co) = upd (upd vl 4 (vl 4 + co)) 9 (vl 9 + 1) := upd_comm (by omega)
    have vl4 : upd vl 9 (vl 9 + 1) 4 = vl 4 := if_neg (by omega)
    have hco2 : cargoN x 20 = co := (cargo_eq hA h1 en).trans hco.symm
    rw [hvl] at hv ev
    refine Or.inl ⟨⟨hh, ?_⟩, ht, by rw [hr, hco2], ?_, ?_⟩
    · have : ∀ (q : Nat → Bool) m, m ≤ 20 → ∃ p : Nat, p ≤ m ∧ hFold q (fun _ => 1) m = nI p := by
        intro q m
        induction m with
        | zero => intro _; exact ⟨0, by omega, rfl⟩
        | succ m ih =>
          intro hm
          obtain ⟨p, hp, e⟩ := ih (by omega)
          unfold hFold
          split
          · exact ⟨p + 1, by omega, by rw [e]; exact nI_1 p⟩
          · exact ⟨p, by omega, e⟩
      obtain ⟨p, hp, e⟩ := this (isAt v 2) _ h1
      unfold nAt at h2 ⊢
      rw [e] at h2 ⊢
      exact (pos_nI (by omega)).mpr h2
    · rw [hv, ev, ex, hco2, a1.at (q := 4) (by omega), a1.at (q := 9) (by omega)]
      exact (a1.lo (by omega) (by omega)).lo (by omega) (by omega)
    · rw [hv, ev, ex]
      exact (a2.up (by omega) (by omega)).up (by omega) (by omega)
  · obtain rfl := un h1 e1
    rw [f0] at hh
    exact Or.inr ⟨fun q => hh q.1, ht⟩
  · obtain rfl := un h1 e1
    refine Or.inr ⟨fun q => ?_, ht⟩
    have := q.2
    rw [h2] at this
    exact Int32.lt_irrefl this
theorem lsr_d {d : Nat} (hd : d ≤ 20) : (nI d < 20 → lsr 20 (nI d + 1) = nI d + 1) ∧ (¬ nI d < 20 → lsr 20 (nI d + 1) = nI d) ∧ ∃ d2 : Nat, d2 ≤ 20 ∧ lsr 20 (nI d + 1) = nI d2 := by
  have h20 : (20 : Int32) = nI 20 := rfl
  rw [h20, nI_1]
  by_cases h : d < 20
  · have e : lsr (nI 20) (nI (d + 1)) = nI (d + 1) := if_neg (nI_nlt (by omega) (by omega))
    rw [e]
    exact ⟨fun _ => rfl, fun q => absurd (nI_lt h (by omega)) q, d + 1, by omega, rfl⟩
  · have e : lsr (nI 20) (nI (d + 1)) = nI 20 := if_pos (nI_lt (by omega) (by omega))
    rw [e]
    obtain rfl : d = 20 := by omega
    exact ⟨fun q => absurd q (nI_nlt (by omega) (by omega)), fun _ => rfl, 20, by omega, rfl⟩
theorem upd_self {f : Nat → Int32} {i : Nat} {z : Int32} (h : z = f i) : upd f i z = f := by
  funext q
  show (if q = i then z else f q) = f q
  by_cases e : q = i
  · rw [if_pos e, e]; exact h
  · rw [if_neg e]
theorem damp_row (y : Nat → Int32) (n : Nat) : setRow y n (cDamper (row y n)) = if y (28 + 9 * n + 7) = 0 ∧ 0 < y (28 + 9 * n + 3) ∧ cTight (row y n) = false ∧ y (28 + 9 * n + 6) < 20 then upd y (28 + 9 * n + 6) (y (28 + 9 * n + 6) + 1) else y := by
  unfold cDamper
  by_cases h : y (28 + 9 * n + 7) = 0 ∧ 0 < y (28 + 9 * n + 3) ∧ cTight (row y n) = false ∧ y (28 + 9 * n + 6) < 20
  · rw [if_pos (show row y n 7 = 0 ∧ 0 < row y n 3 ∧ cTight (row y n) = false ∧ row y n 6 < 20 from h), if_pos h, setRow_upd (by omega), setRow_self]
    rfl
  · rw [if_neg (show ¬ (row y n 7 = 0 ∧ 0 < row y n 3 ∧ cTight (row y n) = false ∧ row y n 6 < 20) from h), if_neg h, setRow_self]
theorem damp_step {y u : Nat → Int32} {n : Nat} (hA : alk y u) (hx : hok y) (hm : nI n < y 3) (hn : n < 20) : alk (setRow y n (cDamper (row y n))) (if u (28 + 9 * n + 7) = 0 ∧ ¬ u (28 + 9 * n + 3) = 0 ∧ ¬ (u (28 + 9 * n + 4) = 1 ∧ u (28 + 9 * n + 0) + 2 ≤ u (28 + 9 * n + 5)) then upd u (28 + 9 * n + 6) (lsr 20 (u (28 + 9 * n + 6) + 1)) else u) ∧ lks y u (setRow y n (cDamper (row y n))) (if u (28 + 9 * n + 7) = 0 ∧ ¬ u (28 + 9 * n + 3) = 0 ∧ ¬ (u (28 + 9 * n + 4) = 1 ∧ u (28 + 9 * n + 0) + 2 ≤ u (28 + 9 * n + 5)) then upd u (28 + 9 * n + 6) (lsr 20 (u (28 + 9 * n + 6) + 1)) else u) ∧ setRow y n (cDamper (row y n)) 3 = y 3 := by
  have e7 := hA.row hm hn (j := 7) (by omega)
  have e6 := hA.row hm hn (j := 6) (by omega)
  have e3 := hA.row hm hn (j := 3) (by omega)
  have hT : (u (28 + 9 * n + 4) = 1 ∧ u (28 + 9 * n + 0) + 2 ≤ u (28 + 9 * n + 5)) ↔ cTight (row y n) = true := tight_eq hA hx hm hn
  have hpo := hx.po hn
  obtain ⟨d, hd, ed⟩ := (hA.2.2 n hn).1
  obtain ⟨d1, d2, d3⟩ := lsr_d hd
  rw [damp_row, e7, e6, e3]
  by_cases hc : y (28 + 9 * n + 7) = 0 ∧ ¬ y (28 + 9 * n + 3) = 0 ∧ ¬ (u (28 + 9 * n + 4) = 1 ∧ u (28 + 9 * n + 0) + 2 ≤ u (28 + 9 * n + 5))
  · rw [if_pos hc]
    have ht : cTight (row y n) = false := by
      cases h : cTight (row y n) with
      | false => rfl
      | true => exact absurd (hT.mpr h) hc.2.2
    by_cases h20 : y (28 + 9 * n + 6) < 20
    · rw [if_pos ⟨hc.1, hpo.mpr hc.2.1, ht, h20⟩]
      rw [ed] at h20 ⊢
      rw [d1 h20]
      refine ⟨hA.ro hm hn (by omega) (fun _ => ?_), lks.rf.up (Or.inr ⟨n, 6, hn, by omega, rfl⟩) (Or.inr ⟨n, 6, hn, by omega, rfl⟩), if_neg (by omega)⟩
      rw [← d1 h20]
      exact d3
    · rw [if_neg (fun q => h20 q.2.2.2)]
      rw [ed] at h20 ⊢
      rw [d2 h20, upd_self (ed.symm.trans e6.symm)]
      exact ⟨hA, lks.rf, rfl⟩
  · rw [if_neg hc, if_neg (fun q => hc ⟨q.1, hpo.mp q.2.1, fun z => by rw [hT.mp z] at q; exact absurd q.2.2.1 (by decide)⟩)]
    exact ⟨hA, lks.rf, rfl⟩
theorem damp_up (hA : alk x v) (hx : hok x) {n : Nat} (hn : n ≤ 20) (e3 : x 3 = nI n) : ∀ m, m ≤ n → alk (dampAll x m) (dampR v m) ∧ lks x v (dampAll x m) (dampR v m) ∧ dampAll x m 3 = nI n := by
  intro m
  induction m with
  | zero => intro _; exact ⟨hA, lks.rf, e3⟩
  | succ m ih =>
    intro hm
    obtain ⟨i1, i2, i3⟩ := ih (by omega)
    obtain ⟨s1, s2, s3⟩ := damp_step i1 (hx.dampN m (by omega)) (by rw [i3]; exact nI_lt (by omega) (by omega)) (n := m) (by omega)
    exact ⟨s1, i2.tr s2, s3.trans i3⟩
theorem dampAll_7 (x : Nat → Int32) (i : Nat) : ∀ m, dampAll x m (28 + 9 * i + 7) = x (28 + 9 * i + 7) := by
  intro m
  induction m with
  | zero => rfl
  | succ m ih =>
    show setRow _ _ _ _ = _
    rw [damp_row]
    split
    · exact (if_neg (by omega)).trans ih
    · exact ih
theorem damp_all (hA : alk x v) (hx : hok x) {n : Nat} (hn : n ≤ 20) (e3 : x 3 = nI n) : alk (dampAll x 20) (dampR v n) ∧ lks x v (dampAll x 20) (dampR v n) := by
  obtain ⟨h1, h2, h3⟩ := damp_up hA hx hn e3 n (Nat.le_refl n)
  have hb : ∀ m, n + m ≤ 20 → dampAll x (n + m) = dampAll x n := by
    intro m
    induction m with
    | zero => intro _; rfl
    | succ m ih =>
      intro hm
      have e : dampAll x (n + (m + 1)) = dampAll x (n + m) := by
        show setRow (dampAll x (n + m)) (n + m) (cDamper (row (dampAll x (n + m)) (n + m))) = _
        rw [damp_row]
        exact if_neg (fun q => by
          have := q.1
          rw [dampAll_7, hA.blank hn e3 (k := n + m) (by omega) (by omega) (j := 7) (by omega)] at this
          exact absurd this (by decide))
      rw [e]
      exact ih (by omega)
  have hb := hb (20 - n) (by omega)
  rw [show n + (20 - n) = 20 by omega] at hb
  rw [hb]
  exact ⟨h1, h2⟩
theorem hour_eq (hA : alk x v) (hx : hok x) {n : Nat} (hn : n ≤ 20) (e3 : x 3 = nI n) : alk (hourP x) (hourR v n) ∧ lks x v (hourP x) (hourR v n) := by
  unfold hourP hourR
  rw [hA.at (q := 5) (by omega), hA.at (q := 0) (by omega)]
  have hA2 : alk (upd x 0 (x 0 + 1)) (upd v 0 (x 0 + 1)) := hA.lo (by omega) (by omega)
  have hl2 : lks x v (upd x 0 (x 0 + 1)) (upd v 0 (x 0 + 1)) := lks.rf.up (by omega) (by omega)
  split
  · obtain ⟨a, b⟩ := damp_all hA2 (hx.up (by omega)) hn ((if_neg (by omega)).trans e3)
    exact ⟨a, hl2.tr b⟩
  · exact ⟨hA2, hl2⟩
theorem pass_up (hA : alk x v) (hx : hok x) {n : Nat} (hn : n ≤ 20) (e3 : x 3 = nI n) : ∀ m, alk (passN x m) (passR v n m) ∧ lks x v (passN x m) (passR v n m) := by
  intro m
  induction m with
  | zero => exact ⟨hA, lks.rf⟩
  | succ m ih =>
    obtain ⟨i1, i2⟩ := ih
    obtain ⟨a, b⟩ := hour_eq i1 (hx.passH m) hn (i2.1.trans e3)
    exact ⟨a, i2.tr b⟩
theorem pass_eq (hA : alk x v) (hx : hok x) {n : Nat} (hn : n ≤ 72) (h1 : 1 ≤ n) (hR : R_X8_passes t v (nI n) r t' v') : t' 1 = t 1 ∧ r = some (.int (tide (passN x n 0) 0)) ∧ alk (passN x n) v' ∧ lks x v (passN x n) v' := by
  obtain ⟨m, hm, en⟩ := hA.num
  rcases hR with ⟨i, m0, tl, vl, -, ei, -, hi, hm0, em0, -, hvl, ht, hr, hv⟩ | ⟨h, -⟩
  · obtain rfl : n = i := (nI_eq (by omega) (by omega)).mp ei
    obtain rfl : m0 = m := (nI_eq (by omega) (by omega)).mp (by rw [← em0, ← en, hA.at (by omega)])
    obtain ⟨a, b⟩ := pass_up hA hx hm en n
    rw [← hvl] at a b
    rw [tide_0, hr, a.at (by omega), hv]
    exact ⟨ht, rfl, a, b⟩
  · exact absurd ⟨nI_le (a := 1) h1 (by omega), nI_le (b := 72) hn (by omega)⟩ h
theorem pass_bad {hs : Int32} (hp : ¬ (1 ≤ hs ∧ hs ≤ 72)) (hR : R_X8_passes t v hs r t' v') : t' 1 = 2 := by
  rcases hR with ⟨i, m0, tl, vl, h, -⟩ | ⟨-, h⟩
  · exact absurd h hp
  · exact h
end ALK2
