/-! THE STATE OF AN OBJECT: what a house's numbers keep; where its parts lie; how a write to one part leaves the others -/
def hok (x : Nat → Int32) : Prop := ∃ n : Nat, n ≤ 20 ∧ x 3 = nI n ∧ ∀ k, k < 20 → (∃ z p : Nat, z ≤ 5 ∧ p ≤ 10 * z ∧ (n ≤ k → p = 0) ∧ x (28 + 9 * k + 0) = nI z ∧ x (28 + 9 * k + 3) = nI p ∧ (p ≠ 0 → ∃ ga ki : Nat, ga < 6 ∧ ki < 3 ∧ x (28 + 9 * k + 1) = nI ga ∧ x (28 + 9 * k + 2) = nI ki)) ∧ (x (28 + 9 * k + 4) = 0 ∨ x (28 + 9 * k + 4) = 1)
section HOK
variable {x x' y : Nat → Int32} {k : Nat}
theorem hok.same (h : hok x) (h3 : x' 3 = x 3) (hr : ∀ k j, k < 20 → j < 4 → x' (28 + 9 * k + j) = x (28 + 9 * k + j)) (hl : ∀ k, k < 20 → x' (28 + 9 * k + 4) = x (28 + 9 * k + 4) ∨ x' (28 + 9 * k + 4) = 0 ∨ x' (28 + 9 * k + 4) = 1) : hok x' := by
  obtain ⟨n, hn, e3, hc⟩ := h
  refine ⟨n, hn, h3.trans e3, fun k hk => ?_⟩
  obtain ⟨⟨z, p, hz, hp, hnk, ez, ep, hg⟩, hb⟩ := hc k hk
  refine ⟨⟨z, p, hz, hp, hnk, (hr k 0 hk (by omega)).trans ez, (hr k 3 hk (by omega)).trans ep, fun q => ?_⟩, ?_⟩
  · obtain ⟨ga, ki, h1, h2, e1, e2⟩ := hg q
    exact ⟨ga, ki, h1, h2, (hr k 1 hk (by omega)).trans e1, (hr k 2 hk (by omega)).trans e2⟩
  · rcases hl k hk with e | e | e
    · rw [e]; exact hb
    · exact Or.inl e
    · exact Or.inr e
/-- a write elsewhere -/
theorem hok.up (h : hok x) {i : Nat} {v : Int32} (hi : (i < 28 ∧ i ≠ 3) ∨ 208 ≤ i ∨ ∃ k j, k < 20 ∧ 4 < j ∧ j < 9 ∧ i = 28 + 9 * k + j) : hok (upd x i v) := by
  have hne : ∀ k j, k < 20 → j < 5 → 28 + 9 * k + j ≠ i := by
    intro k j hk hj
    rcases hi with hi | hi | ⟨k2, j2, h1, h2, h3, h4⟩ <;> omega
  refine h.same (if_neg ?_) (fun k j hk hj => if_neg (hne k j hk (by omega))) (fun k hk => Or.inl (if_neg (hne k 4 hk (by omega))))
  rcases hi with hi | hi | ⟨k2, j2, h1, h2, h3, h4⟩ <;> omega
theorem hok.up4 (h : hok x) {i : Nat} (hi : ∃ k, k < 20 ∧ i = 28 + 9 * k + 4) {v : Int32} (hv : v = 0 ∨ v = 1) : hok (upd x i v) := by
  obtain ⟨k, hk, rfl⟩ := hi
  refine h.same (if_neg (by omega)) (fun k2 j hk2 hj => if_neg (by omega)) (fun k2 hk2 => ?_)
  unfold upd
  by_cases e : 28 + 9 * k2 + 4 = 28 + 9 * k + 4
  · rw [if_pos e]; exact Or.inr hv
  · rw [if_neg e]; exact Or.inl rfl
theorem hok.refu (h : hok x) (hr : refd x x') : hok x' := by
  obtain ⟨a, b, rfl⟩ := hr
  exact (h.up (by omega)).up (by omega)
theorem hok.cp (h : hok y) : hok (cpX x y) := by
  refine h.same ?_ (fun k j hk hj => ?_) (fun k hk => Or.inl ?_) <;> exact (if_neg (by omega)).trans (if_neg (by omega))
theorem hok.lined (h : hok x) : ∀ k, k < 20 → x (28 + 9 * k + 4) = 0 ∨ x (28 + 9 * k + 4) = 1 := by
  obtain ⟨n, hn, e3, hc⟩ := h
  exact fun k hk => (hc k hk).2
theorem hok.made (h : hok x) : ∃ n : Nat, n ≤ 20 ∧ x 3 = nI n := by
  obtain ⟨n, hn, e3, hc⟩ := h
  exact ⟨n, hn, e3⟩
theorem nI_ten {z p q : Nat} (hz : z ≤ 5) (hp : p ≤ 50) (hq : q ≤ 50) (h : nI q ≤ 10 * nI z - nI p) : p + q ≤ 10 * z := by
  have e : (10 : Int32) * nI z - nI p = Int32.ofInt ((10 * z : Int) - p) := by
    rw [show (10 : Int32) = Int32.ofInt 10 from rfl, show nI z = Int32.ofInt z from rfl, show nI p = Int32.ofInt p from rfl, ← Int32.ofInt_mul, ← Int32.ofInt_sub]
  rw [e, Int32.le_iff_toInt_le, nI_toInt (by omega), Int32.toInt_ofInt_of_le (by omega) (by omega)] at h
  omega
theorem hok.filled (h : hok x) {k : Nat} (hk : k < 20) (hp : 0 < x (28 + 9 * k + 3)) : ∃ ga ki po : Nat, ga < 6 ∧ ki < 3 ∧ po < 100 ∧ row x k 1 = nI ga ∧ row x k 2 = nI ki ∧ row x k 3 = nI po := by
  obtain ⟨n, hn, e3, hc⟩ := h
  obtain ⟨⟨z, p, hz, hp2, hnk, ez, ep, hg⟩, -⟩ := hc k hk
  obtain ⟨ga, ki, h1, h2, e1, e2⟩ := hg (fun q => by
    subst q
    rw [ep] at hp
    exact absurd hp (by decide))
  exact ⟨ga, ki, p, h1, h2, by omega, e1, e2, ep⟩
theorem isLeafB_nat {ga ki : Int32} (h : isLeafB ga ki = true) : ∃ a b : Nat, a < 6 ∧ b < 3 ∧ ga = nI a ∧ ki = nI b := by
  obtain ⟨h1, h2, h3, h4⟩ := of_decide_eq_true h
  obtain ⟨a, ea, ha⟩ := i32_nat (n := 6) rfl (by decide) h1 h2
  obtain ⟨b, eb, hb⟩ := i32_nat (n := 3) rfl (by decide) h3 h4
  exact ⟨a, b, ha, hb, ea, eb⟩
theorem sAdd_at {ga ki po : Int32} {q : Nat} (hq : q < 10 ∨ 28 ≤ q) : sAdd x ga ki po q = x q := by
  unfold sAdd
  split
  · rename_i hB
    have := (sIx_ok hB).1
    exact if_neg (by omega)
  · rfl
theorem hok.addS (h : hok x) {ga ki po : Int32} : hok (sAdd x ga ki po) := h.same (sAdd_at (by omega)) (fun k j hk hj => sAdd_at (by omega)) (fun k hk => Or.inl (sAdd_at (by omega)))
theorem hok.bring (h : hok x) {ga ki po : Int32} : hok (bringX x ga ki po) := h.addS.up (by omega)
theorem hok.line (h : hok x) (hk : k < 20) : hok (lineX x k) := (h.up (by omega)).up4 ⟨k, hk, rfl⟩ (Or.inr rfl)
theorem hok.screw (h : hok x) (hk : k < 20) {mn : Int32} : hok (screwX x k mn) := (h.up (by omega)).up (Or.inr (Or.inr ⟨k, 5, hk, by omega, by omega, rfl⟩))
theorem hok.unscrew (h : hok x) (hk : k < 20) : hok (unscrewX x k) := (h.up (by omega)).up (Or.inr (Or.inr ⟨k, 5, hk, by omega, by omega, rfl⟩))
theorem hok.quay (h : hok x) (hk : k < 20) : hok (quayX x k) := h.up (Or.inr (Or.inr ⟨k, 7, hk, by omega, by omega, rfl⟩))
theorem hok.load (h : hok x) (hk : k < 20) : hok (loadX x k) := h.up (Or.inr (Or.inr ⟨k, 7, hk, by omega, by omega, rfl⟩))
theorem setRow_in {f : Nat → Int32} {j : Nat} (hj : j < 8) : setRow x k f (28 + 9 * k + j) = f j := by
  unfold setRow
  rw [if_pos (by omega), show 28 + 9 * k + j - (28 + 9 * k) = j by omega]
theorem setRow_out {f : Nat → Int32} {q : Nat} (hq : q < 28 + 9 * k ∨ 28 + 9 * k + 8 ≤ q) : setRow x k f q = x q := by
  unfold setRow
  rw [if_neg (by omega)]
/-- one chest's row written: what the others keep stays -/
theorem hok.setR (h : hok x) (hk : k < 20) {f : Nat → Int32} (hf : ∀ n : Nat, x 3 = nI n → n ≤ 20 → ∃ z p : Nat, z ≤ 5 ∧ p ≤ 10 * z ∧ (n ≤ k → p = 0) ∧ f 0 = nI z ∧ f 3 = nI p ∧ (p ≠ 0 → ∃ ga ki : Nat, ga < 6 ∧ ki < 3 ∧ f 1 = nI ga ∧ f 2 = nI ki)) (hb : f 4 = 0 ∨ f 4 = 1) : hok (setRow x k f) := by
  obtain ⟨n, hn, e3, hc⟩ := h
  refine ⟨n, hn, (setRow_out (by omega)).trans e3, fun k2 hk2 => ?_⟩
  by_cases e : k2 = k
  · subst e
    obtain ⟨z, p, h1, h2, h3, h4, h5, h6⟩ := hf n e3 hn
    refine ⟨⟨z, p, h1, h2, h3, (setRow_in (by omega)).trans h4, (setRow_in (by omega)).trans h5, fun q => ?_⟩, ?_⟩
    · obtain ⟨ga, ki, g1, g2, g3, g4⟩ := h6 q
      exact ⟨ga, ki, g1, g2, (setRow_in (by omega)).trans g3, (setRow_in (by omega)).trans g4⟩
    · rw [setRow_in (by omega)]
      exact hb
  · obtain ⟨⟨z, p, h1, h2, h3, h4, h5, h6⟩, h7⟩ := hc k2 hk2
    refine ⟨⟨z, p, h1, h2, h3, (setRow_out (by omega)).trans h4, (setRow_out (by omega)).trans h5, fun q => ?_⟩, ?_⟩
    · obtain ⟨ga, ki, g1, g2, g3, g4⟩ := h6 q
      exact ⟨ga, ki, g1, g2, (setRow_out (by omega)).trans g3, (setRow_out (by omega)).trans g4⟩
    · rw [setRow_out (by omega)]
      exact h7
theorem hok.fill (h : hok x) (hk : k < 20) (hm : nI k < x 3) {ga ki po : Int32} (hB : isLeafB ga ki = true) (h1 : 1 ≤ po) (h5 : po ≤ 50) (hO : fillOk x k ga ki po) : hok (fillX x k ga ki po) := by
  obtain ⟨a, b, ha, hb, rfl, rfl⟩ := isLeafB_nat hB
  obtain ⟨q, rfl, hq⟩ := i32_nat (a := po) (n := 51) rfl (by decide) (Int32.le_trans (by decide) h1) (Int32.lt_of_le_of_lt h5 (by decide))
  have hh := h
  obtain ⟨n, hn, e3, hc⟩ := h
  obtain ⟨⟨z, p, hz, hp, hnk, ez, ep, hg⟩, hl⟩ := hc k hk
  have hkn : k < n := by
    rw [e3] at hm
    exact (nI_ltI (by omega) (by omega)).mp hm
  have hr : nI q ≤ 10 * nI z - nI p := by
    have := hO.2.2.2.1
    unfold cRoom row at this
    rw [ez, ep] at this
    exact this
  have hpq := nI_ten hz (by omega) (by omega) hr
  have s0 : ∀ j, row (sAdd x (nI a) (nI b) (-nI q)) k j = x (28 + 9 * k + j) := fun j => sAdd_at (by omega)
  refine hok.setR (hh.addS) hk (fun n2 e2 _ => ⟨z, p + q, hz, hpq, fun hc2 => ?_, ?_, ?_, fun _ => ⟨a, b, ha, hb, rfl, rfl⟩⟩) ?_
  · exfalso
    rw [sAdd_at (by omega), e3] at e2
    have := (nI_eq (by omega) (by omega)).mp e2
    omega
  · show row _ k 0 = nI z
    exact (s0 0).trans ez
  · show row _ k 3 + nI q = nI (p + q)
    rw [s0 3, ep, nI_add]
  · exact hl.imp (fun e => (s0 4).trans e) (fun e => (s0 4).trans e)
theorem hok.empty (h : hok x) (hk : k < 20) : hok (emptyX x k) := by
  have hy : hok (emptyZ x k) := h.addS.up (by omega)
  obtain ⟨n, hn, e3, hc⟩ := id hy
  obtain ⟨⟨z, p, hz, hp, hnk, ez, ep, hg⟩, hl⟩ := hc k hk
  exact hok.setR hy hk (fun n2 e2 _ => ⟨z, 0, hz, by omega, fun _ => rfl, ez, rfl, fun q => absurd rfl q⟩) hl
theorem hok.make (h : hok x) {si : Int32} (hk : k < 20) (e3 : x 3 = nI k) (h1 : 1 ≤ si) (h5 : si ≤ 5) : hok (makeX x k si) := by
  obtain ⟨z, rfl, hz⟩ := i32_nat (a := si) (n := 6) rfl (by decide) (Int32.le_trans (by decide) h1) (Int32.lt_of_le_of_lt h5 (by decide))
  obtain ⟨n, hn, en, hc⟩ := h
  have hnk : n = k := (nI_eq (by omega) (by omega)).mp (en.symm.trans e3)
  subst hnk
  refine ⟨n + 1, by omega, rfl, fun k2 hk2 => ?_⟩
  obtain ⟨⟨z2, p, hz2, hp, hnk, ez, ep, hg⟩, hl⟩ := hc k2 hk2
  have hm : ∀ q : Nat, q ≠ 3 → q ≠ 28 + 9 * n + 7 → q ≠ 28 + 9 * n + 0 → makeX x n (nI z) q = x q := fun q a1 a2 a3 => by
    unfold makeX upd
    rw [if_neg a1, if_neg a2, if_neg a3]
  by_cases e : k2 = n
  · subst e
    obtain rfl := hnk (Nat.le_refl _)
    refine ⟨⟨z, 0, by omega, by omega, fun _ => rfl, ?_, (hm _ (by omega) (by omega) (by omega)).trans ep, fun q => absurd rfl q⟩, ?_⟩
    · unfold makeX upd
      rw [if_neg (by omega), if_neg (by omega), if_pos rfl]
    · rw [hm _ (by omega) (by omega) (by omega)]
      exact hl
  · refine ⟨⟨z2, p, hz2, hp, fun q => hnk (by omega), (hm _ (by omega) (by omega) (by omega)).trans ez, (hm _ (by omega) (by omega) (by omega)).trans ep, fun q => ?_⟩, ?_⟩
    · obtain ⟨ga, ki, g1, g2, g3, g4⟩ := hg q
      exact ⟨ga, ki, g1, g2, (hm _ (by omega) (by omega) (by omega)).trans g3, (hm _ (by omega) (by omega) (by omega)).trans g4⟩
    · rw [hm _ (by omega) (by omega) (by omega)]
      exact hl
theorem hok.sailN (h : hok x) : ∀ n : Nat, n ≤ 20 → hok (sailAll x n) := by
  intro n
  induction n with
  | zero => intro _; exact h
  | succ n ih =>
    intro hn
    have h1 := ih (by omega)
    show hok (if _ then _ else _)
    split
    · exact (h1.up (Or.inr (Or.inr ⟨n, 7, by omega, by omega, by omega, rfl⟩))).up (by omega)
    · exact h1
theorem hok.sail (h : hok x) : hok (sailX x) := (hok.sailN (h.up (by omega)) 20 (by omega)).up (by omega)
theorem cDamper_at (f : Nat → Int32) (j : Nat) (hj : j ≠ 6) : cDamper f j = f j := by
  unfold cDamper
  split
  · exact if_neg hj
  · rfl
theorem hok.dampN (h : hok x) : ∀ n : Nat, n ≤ 20 → hok (dampAll x n) := by
  intro n
  induction n with
  | zero => intro _; exact h
  | succ n ih =>
    intro hn
    have h1 := ih (by omega)
    show hok (setRow _ _ _)
    obtain ⟨n1, hn1, en, hc⟩ := id h1
    obtain ⟨⟨z2, p, hz2, hp, hnk, ez, ep, hg⟩, hl⟩ := hc n (by omega)
    refine hok.setR h1 (by omega) (fun n2 e2 hn2 => ?_) ?_
    · have : n2 = n1 := (nI_eq (by omega) (by omega)).mp (e2.symm.trans en)
      subst this
      refine ⟨z2, p, hz2, hp, hnk, (cDamper_at _ 0 (by omega)).trans ez, (cDamper_at _ 3 (by omega)).trans ep, fun q => ?_⟩
      obtain ⟨ga, ki, g1, g2, g3, g4⟩ := hg q
      exact ⟨ga, ki, g1, g2, (cDamper_at _ 1 (by omega)).trans g3, (cDamper_at _ 2 (by omega)).trans g4⟩
    · rw [cDamper_at _ 4 (by omega)]
      exact hl
theorem hok.passH (h : hok x) : ∀ n : Nat, hok (passN x n) := by
  intro n
  induction n with
  | zero => exact h
  | succ n ih =>
    show hok (hourP _)
    unfold hourP
    split
    · exact hok.dampN (ih.up (by omega)) 20 (by omega)
    · exact ih.up (by omega)
theorem hok_x00 : hok x00 := by
  refine ⟨0, by omega, rfl, fun k hk => ⟨⟨0, 0, by omega, by omega, fun _ => rfl, ?_, ?_, fun q => absurd rfl q⟩, Or.inl ?_⟩⟩ <;> rw [x00_row k hk _ (by omega)] <;> rfl
end HOK

/-! WHERE THE PARTS LIE: b the object; b + 1 its house, b + 24 what was saved, b + 47 the history, b + 48 its rows, b + 49 + 23 r the houses in them, b + 256 the text, b + 257 its signs -/
def chB (f : Nat → Int32) : Prop := ∀ j, isCh (f j)
theorem chB.up {f : Nat → Int32} {a : Nat} {v : Int32} (h : chB f) (hv : isCh v) : chB (upd f a v) := by
  intro j
  unfold upd
  split
  · exact hv
  · exact h j
theorem chB.n {f : Nat → Int32} {a q : Nat} (h : chB f) (hq : q < 100) : chB (putN f a q) := by
  unfold putN
  split
  · exact h.up (isCh_nI _ (by omega))
  · exact (h.up (isCh_nI _ (by omega))).up (isCh_nI _ (by omega))
theorem xb_ch0 : ∀ i, i < 13 → ∀ j, j < 7 → isCh ((xbyt.getD i []).getD j 0) := by
  unfold isCh
  decide +kernel
theorem chB.s {f : Nat → Int32} {a i : Nat} (h : chB f) (hi : i < 13) : chB (putS f a i) := by
  have hl : ∀ i, i < 13 → xlen.getD i 0 < 7 := by decide +kernel
  intro j
  unfold putS va_cpy
  split
  · rename_i h1
    have := hl i hi
    exact xb_ch0 i hi _ (by omega)
  · exact h j
theorem labF_ch {ga ki po : Nat} {da : Bool} (h1 : ga < 100) (h2 : ki < 3) (h3 : po < 100) : chB (labF ga ki po da) := by
  have h0 : chB (labF2 ga ki po) := ((((chB.n (fun _ => isCh_nI 0 (by omega)) h1).up isCh46).s (by omega)).up isCh32).n h3
  unfold labF
  split
  · exact h0.s (by omega)
  · exact h0
theorem labTxt_ch {x : Nat → Int32} {k : Nat} (h : hok x) (hk : k < 20) (hp : 0 < x (28 + 9 * k + 3)) : ∀ j, isCh (labTxt x k j) := by
  obtain ⟨ga, ki, po, h1, h2, h3, e1, e2, e3⟩ := h.filled hk hp
  have f1 : nat (x (28 + 9 * k + 1)) = ga := by
    show (row x k 1).toNatClampNeg = ga
    rw [e1]; exact nI_clamp (by omega)
  have f2 : nat (x (28 + 9 * k + 2)) = ki := by
    show (row x k 2).toNatClampNeg = ki
    rw [e2]; exact nI_clamp (by omega)
  have f3 : nat (x (28 + 9 * k + 3)) = po := by
    show (row x k 3).toNatClampNeg = po
    rw [e3]; exact nI_clamp (by omega)
  unfold labTxt
  rw [f1, f2, f3]
  exact labF_ch (by omega) h2 h3
def hAd (b i : Nat) : Nat := if i < 2 then b + 1 + 23 * i else b + 3 + 23 * i
def clE (b : Nat) (t : Nat → Int32) : va_E := .inr (7, [.ref (b + 1), .ref (b + 24), .int (t 0), .ref (b + 47), .ref (b + 256)])
def hiE (b : Nat) (t : Nat → Int32) : va_E := .inr (5, [.ref (b + 48), .int (t 1), .int (t 2)])
def roE (g : xg_T) (b : Nat) : va_E := .inl (g.2 7, 9, .inr (.inr (.inr (.inr (fun j => if j < 9 then some (b + 49 + 23 * j) else none)))))
def txtL (a : Nat) (t : Nat → Int32) (vb : Option Nat) : List Value := [.ref (a + 1), .int (t 0), .int (t 1), .int (t 2), va_rf vb, .int (t 3), .int (t 4), .int (t 5), .int (t 6)]
def siE (g : xg_T) (sg : Nat → Int32) : va_E := .inl (g.2 2, 60, .inl sg)
def vbOk (g : xg_T) (vb : Option Nat) : Prop := vb = none ∨ ∃ i : Nat, i < 8 ∧ vb = some (g.2 (30 + i))
/-- the text's counts: n signs, where it stands, where it broke off -/
def tOk (n : Nat) (tt : Nat → Int32) : Prop := tt 0 = nI n ∧ n ≤ 60 ∧ (∃ m : Nat, m ≤ 60 ∧ tt 1 = nI m) ∧ ∃ m : Nat, m ≤ 60 ∧ tt 2 = nI m
def lok (g : xg_T) (w : xw_T) (sz : Nat) (la : Nat → Nat) : Prop := ∃ (ln : Nat → Nat) (lf : Nat → Nat → Int32), ∀ k, k < 20 → xTx g w sz (la k) (ln k) (lf k) ∧ ∀ j, isCh (lf k j)
/-- the object's state: x, la the houses (0 its own, 1 the saved one, 2 and on the rows), t its counts, tt, vb the text's, sg the signs, n of them -/
def CR (g : xg_T) (w : xw_T) (sz n : Nat) (x : Nat → Nat → Int32) (la : Nat → Nat → Nat) (t tt : Nat → Int32) (vb : Option Nat) (sg : Nat → Int32) : Prop :=
  (w (g.2 0) = some (clE (g.2 0) t) ∧ w (g.2 0 + 47) = some (hiE (g.2 0) t) ∧ w (g.2 0 + 48) = some (roE g (g.2 0)) ∧ w (g.2 0 + 256) = some (.inr (4, txtL (g.2 0 + 256) tt vb)) ∧ w (g.2 0 + 257) = some (siE g sg)) ∧
  (∀ i, i < 11 → HR g w (hAd (g.2 0) i) (x i) (la i) ∧ hok (x i) ∧ lok g w sz (la i)) ∧
  (tOk n tt ∧ vbOk g vb ∧ g.2 0 + 269 ≤ sz)
def CI (g : xg_T) (w : xw_T) (sz n : Nat) : Prop := ∃ x la t tt vb sg, CR g w sz n x la t tt vb sg
/-- what stays behind the object's parts -/
def xFr (g : xg_T) (w w1 : xw_T) (sz : Nat) : Prop := ∀ q, g.2 0 + 258 ≤ q → q < sz → w1 q = w q
theorem hAd_0 (b : Nat) : hAd b 0 = b + 1 := rfl
theorem hAd_1 (b : Nat) : hAd b 1 = b + 24 := rfl
theorem hAd_r (b i : Nat) : hAd b (i + 2) = b + 49 + 23 * i := by
  unfold hAd
  rw [if_neg (by omega)]
  omega
theorem hAd_in {b i : Nat} (hi : i < 11) : b + 1 ≤ hAd b i ∧ (hAd b i + 23 ≤ b + 47 ∨ (b + 49 ≤ hAd b i ∧ hAd b i + 23 ≤ b + 256)) := by
  unfold hAd
  split <;> omega
theorem hAd_ne {b i j : Nat} (h : i ≠ j) : hAd b i + 23 ≤ hAd b j ∨ hAd b j + 23 ≤ hAd b i := by
  unfold hAd
  split <;> split <;> omega
section CRS
variable {g : xg_T} {w w1 : xw_T} {sz sz1 n : Nat} {x : Nat → Nat → Int32} {la : Nat → Nat → Nat} {t tt : Nat → Int32} {vb : Option Nat} {sg : Nat → Int32}
theorem lok.go {l0 : Nat → Nat} (h : lok g w sz l0) (hq : ∀ q, g.2 0 + 269 ≤ q → q < sz → w1 q = w q) (hz : sz ≤ sz1) : lok g w1 sz1 l0 := by
  obtain ⟨ln, lf, h⟩ := h
  exact ⟨ln, lf, fun k hk => ⟨(h k hk).1.go hq hz, (h k hk).2⟩⟩
theorem lok.set {l0 : Nat → Nat} (h : lok g w sz l0) {k a m : Nat} {f : Nat → Int32} (ha : xTx g w sz a m f) (hc : ∀ j, isCh (f j)) : lok g w sz (va_up l0 k a) := by
  obtain ⟨ln, lf, h⟩ := h
  refine ⟨fun j => if j = k then m else ln j, fun j => if j = k then f else lf j, fun j hj => ?_⟩
  show xTx g w sz (va_up l0 k a j) (if j = k then m else ln j) (if j = k then f else lf j) ∧ ∀ i, isCh ((if j = k then f else lf j) i)
  unfold va_up
  by_cases e : j = k
  · rw [if_pos e, if_pos e, if_pos e]
    exact ⟨ha, hc⟩
  · rw [if_neg e, if_neg e, if_neg e]
    exact h j hj
theorem lok.blank {l0 : Nat → Nat} (h : lok g w sz l0) {k : Nat} : lok g w sz (va_up l0 k (g.2 100)) := h.set (m := 0) (f := fun _ => 0) xTx.empty (fun _ => isCh_nI 0 (by omega))
theorem xFr.rf : xFr g w w sz := fun _ _ _ => rfl
theorem xFr.tr {w2 : xw_T} (h : xFr g w w1 sz) (h2 : xFr g w1 w2 sz1) (hz : sz ≤ sz1) : xFr g w w2 sz := fun q q1 q2 => (h2 q q1 (by omega)).trans (h q q1 q2)
theorem xFr.up {a : Nat} {e : va_E} (ha : a < g.2 0 + 258) : xFr g w (xup w a e) sz := fun q q1 _ => xup_n (by omega)
theorem xFr.hw {h : Nat} {x0 : Nat → Int32} {l0 : Nat → Nat} (ha : h + 23 ≤ g.2 0 + 258) : xFr g w (HW g w h x0 l0) sz := fun q q1 _ => HW_ne (by omega)
theorem CR.go (h : CR g w sz n x la t tt vb sg) (h1 : ∀ q, g.2 0 ≤ q → q < g.2 0 + 258 → w1 q = w q) (h2 : ∀ q, g.2 0 + 269 ≤ q → q < sz → w1 q = w q) (hz : sz ≤ sz1) : CR g w1 sz1 n x la t tt vb sg := by
  obtain ⟨⟨a1, a2, a3, a4, a5⟩, b, c1, c2, c3⟩ := h
  refine ⟨⟨?_, ?_, ?_, ?_, ?_⟩, fun i hi => ?_, c1, c2, by omega⟩
  · rw [h1 _ (by omega) (by omega)]; exact a1
  · rw [h1 _ (by omega) (by omega)]; exact a2
  · rw [h1 _ (by omega) (by omega)]; exact a3
  · rw [h1 _ (by omega) (by omega)]; exact a4
  · rw [h1 _ (by omega) (by omega)]; exact a5
  · obtain ⟨d1, d2, d3⟩ := b i hi
    have := hAd_in (b := g.2 0) hi
    exact ⟨fun q q1 q2 => (h1 q (by omega) (by omega)).trans (d1 q q1 q2), d2, d3.go h2 hz⟩
theorem CR.setH (h : CR g w sz n x la t tt vb sg) {i : Nat} (hi : i < 11) {x0 : Nat → Int32} {l0 : Nat → Nat} (hx : hok x0) (hl : lok g w sz l0) : CR g (HW g w (hAd (g.2 0) i) x0 l0) sz n (va_up x i x0) (va_up la i l0) t tt vb sg := by
  obtain ⟨⟨a1, a2, a3, a4, a5⟩, b, c⟩ := h
  have hin := hAd_in (b := g.2 0) hi
  refine ⟨⟨(HW_ne (by omega)).trans a1, (HW_ne (by omega)).trans a2, (HW_ne (by omega)).trans a3, (HW_ne (by omega)).trans a4, (HW_ne (by omega)).trans a5⟩, fun j hj => ?_, c⟩
  obtain ⟨d1, d2, d3⟩ := b j hj
  have hgo : ∀ l2 : Nat → Nat, lok g w sz l2 → lok g (HW g w (hAd (g.2 0) i) x0 l0) sz l2 := fun l2 h2 => h2.go (fun q q1 _ => HW_ne (by omega)) (Nat.le_refl _)
  by_cases e : j = i
  · subst e
    rw [va_up_self, va_up_self]
    exact ⟨HR_HW, hx, hgo _ hl⟩
  · rw [va_up_ne _ _ e, va_up_ne _ _ e]
    exact ⟨HR_far (hAd_ne e) d1, d2, hgo _ d3⟩
theorem CR.up (h : CR g w sz n x la t tt vb sg) {a : Nat} {e : va_E} (ha : a = g.2 0 ∨ a = g.2 0 + 47 ∨ a = g.2 0 + 256 ∨ a = g.2 0 + 257) : (∀ i, i < 11 → HR g (xup w a e) (hAd (g.2 0) i) (x i) (la i) ∧ hok (x i) ∧ lok g (xup w a e) sz (la i)) := fun i hi => by
  obtain ⟨d1, d2, d3⟩ := h.2.1 i hi
  have hin := hAd_in (b := g.2 0) hi
  exact ⟨fun q q1 q2 => (xup_n (by omega)).trans (d1 q q1 q2), d2, d3.go (fun q q1 _ => xup_n (by omega)) (Nat.le_refl _)⟩
theorem CR.setTx (h : CR g w sz n x la t tt vb sg) {n' : Nat} {tt' : Nat → Int32} {vb' : Option Nat} (h0 : tOk n' tt') (hv : vbOk g vb') : CR g (xup w (g.2 0 + 256) (.inr (4, txtL (g.2 0 + 256) tt' vb'))) sz n' x la t tt' vb' sg := by
  have hu := h.up (a := g.2 0 + 256) (e := .inr (4, txtL (g.2 0 + 256) tt' vb')) (by omega)
  obtain ⟨⟨a1, a2, a3, a4, a5⟩, -, c1, c2, c3⟩ := h
  exact ⟨⟨(xup_n (by omega)).trans a1, (xup_n (by omega)).trans a2, (xup_n (by omega)).trans a3, xup_s _ _ _, (xup_n (by omega)).trans a5⟩, hu, h0, hv, c3⟩
theorem CR.setSg (h : CR g w sz n x la t tt vb sg) {sg' : Nat → Int32} : CR g (xup w (g.2 0 + 257) (siE g sg')) sz n x la t tt vb sg' := by
  have hu := h.up (a := g.2 0 + 257) (e := siE g sg') (by omega)
  obtain ⟨⟨a1, a2, a3, a4, a5⟩, -, c⟩ := h
  exact ⟨⟨(xup_n (by omega)).trans a1, (xup_n (by omega)).trans a2, (xup_n (by omega)).trans a3, (xup_n (by omega)).trans a4, xup_s _ _ _⟩, hu, c⟩
theorem CR.setHi (h : CR g w sz n x la t tt vb sg) {t' : Nat → Int32} (h0 : t' 0 = t 0) : CR g (xup w (g.2 0 + 47) (hiE (g.2 0) t')) sz n x la t' tt vb sg := by
  have hu := h.up (a := g.2 0 + 47) (e := hiE (g.2 0) t') (by omega)
  obtain ⟨⟨a1, a2, a3, a4, a5⟩, -, c⟩ := h
  exact ⟨⟨(xup_n (by omega)).trans (by rw [a1]; unfold clE; rw [h0]), xup_s _ _ _, (xup_n (by omega)).trans a3, (xup_n (by omega)).trans a4, (xup_n (by omega)).trans a5⟩, hu, c⟩
theorem CR.setCl (h : CR g w sz n x la t tt vb sg) {t' : Nat → Int32} (h1 : t' 1 = t 1) (h2 : t' 2 = t 2) : CR g (xup w (g.2 0) (clE (g.2 0) t')) sz n x la t' tt vb sg := by
  have hu := h.up (a := g.2 0) (e := clE (g.2 0) t') (by omega)
  obtain ⟨⟨a1, a2, a3, a4, a5⟩, -, c⟩ := h
  exact ⟨⟨xup_s _ _ _, (xup_n (by omega)).trans (by rw [a2]; unfold hiE; rw [h1, h2]), (xup_n (by omega)).trans a3, (xup_n (by omega)).trans a4, (xup_n (by omega)).trans a5⟩, hu, c⟩
theorem CR.ci (h : CR g w sz n x la t tt vb sg) : CI g w sz n := ⟨_, _, _, _, _, _, h⟩
theorem CR.h0 (h : CR g w sz n x la t tt vb sg) : HR g w (g.2 0 + 1) (x 0) (la 0) := (h.2.1 0 (by omega)).1
theorem CR.hs (h : CR g w sz n x la t tt vb sg) : HR g w (g.2 0 + 24) (x 1) (la 1) := (h.2.1 1 (by omega)).1
theorem CR.hr (h : CR g w sz n x la t tt vb sg) {r : Nat} (hr : r < 9) : HR g w (g.2 0 + 49 + 23 * r) (x (r + 2)) (la (r + 2)) := by
  have := (h.2.1 (r + 2) (by omega)).1
  rw [hAd_r] at this
  exact this
theorem CR.k0 (h : CR g w sz n x la t tt vb sg) : hok (x 0) := (h.2.1 0 (by omega)).2.1
theorem CR.l0 (h : CR g w sz n x la t tt vb sg) : lok g w sz (la 0) := (h.2.1 0 (by omega)).2.2
theorem CR.zz (h : CR g w sz n x la t tt vb sg) : g.2 0 + 269 ≤ sz := h.2.2.2.2
/-- its own house written -/
theorem CR.set0 (h : CR g w sz n x la t tt vb sg) {x0 : Nat → Int32} {l0 : Nat → Nat} (hx : hok x0) (hl : lok g w sz l0) : CR g (HW g w (g.2 0 + 1) x0 l0) sz n (va_up x 0 x0) (va_up la 0 l0) t tt vb sg := h.setH (i := 0) (by omega) hx hl
theorem CR.set1 (h : CR g w sz n x la t tt vb sg) {x0 : Nat → Int32} {l0 : Nat → Nat} (hx : hok x0) (hl : lok g w sz l0) : CR g (HW g w (g.2 0 + 24) x0 l0) sz n (va_up x 1 x0) (va_up la 1 l0) t tt vb sg := h.setH (i := 1) (by omega) hx hl
theorem CR.setr (h : CR g w sz n x la t tt vb sg) {r : Nat} (hr : r < 9) {x0 : Nat → Int32} {l0 : Nat → Nat} (hx : hok x0) (hl : lok g w sz l0) : CR g (HW g w (g.2 0 + 49 + 23 * r) x0 l0) sz n (va_up x (r + 2) x0) (va_up la (r + 2) l0) t tt vb sg := by
  have := h.setH (i := r + 2) (by omega) hx hl
  rw [hAd_r] at this
  exact this
end CRS
