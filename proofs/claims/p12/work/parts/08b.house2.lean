/-! A HOUSE: labels as texts; its beginning; its copy -/
/-- the text at a, of n characters f: a constant, or one made behind the blocks -/
def xTx (g : xg_T) (w : xw_T) (sz a n : Nat) (f : Nat → Int32) : Prop := n < 65536 ∧ ∃ (v : Nat) (ft : Nat → Int32), (∀ j, j < n → ft j = f j) ∧ ((∃ i : Nat, i < 13 ∧ a = g.2 (100 + i) ∧ v = g.2 (120 + i) ∧ n = xlen.getD i 0 ∧ ft = fun j => (xbyt.getD i []).getD j 0) ∨ (g.2 0 + 269 ≤ a ∧ a < sz ∧ g.2 0 + 269 ≤ v ∧ v < sz ∧ ∃ hs hz : Int32, w a = some (.inr (0, [.ref v, .int 0, .int hs, .int hz])) ∧ w v = some (.inl (g.2 3, n, .inl ft))))
section XTX
variable {g : xg_T} {w w1 : xw_T} {sz sz1 a n : Nat} {f : Nat → Int32}
theorem xTx.str (h : xTx g w sz a n f) : ∃ (v : Nat) (ft : Nat → Int32), xStrV g w a v n ft ∧ n < 65536 ∧ ∀ j, j < n → ft j = f j := by
  obtain ⟨hn, v, ft, hj, h1 | ⟨-, -, -, -, h1⟩⟩ := h
  · exact ⟨v, ft, Or.inl h1, hn, hj⟩
  · exact ⟨v, ft, Or.inr h1, hn, hj⟩
theorem xTx.go (h : xTx g w sz a n f) (hq : ∀ q, g.2 0 + 269 ≤ q → q < sz → w1 q = w q) (hz : sz ≤ sz1) : xTx g w1 sz1 a n f := by
  obtain ⟨hn, v, ft, hj, h1 | ⟨a1, a2, v1, v2, hs, hz2, b1, b2⟩⟩ := h
  · exact ⟨hn, v, ft, hj, Or.inl h1⟩
  · exact ⟨hn, v, ft, hj, Or.inr ⟨a1, by omega, v1, by omega, hs, hz2, by rw [hq a a1 a2]; exact b1, by rw [hq v v1 v2]; exact b2⟩⟩
theorem xTx.hw (h : xTx g w sz a n f) {h0 : Nat} {x : Nat → Int32} {la : Nat → Nat} (hT : h0 + 23 ≤ g.2 0 + 269) : xTx g (HW g w h0 x la) sz a n f := h.go (fun q q1 _ => HW_ne (by omega)) (Nat.le_refl _)
theorem xTx.empty : xTx g w sz (g.2 100) 0 f := ⟨by decide, g.2 120, _, fun j hj => absurd hj (by omega), Or.inl ⟨0, by decide, rfl, rfl, rfl, rfl⟩⟩
theorem xTx.of {v : Nat} {ft : Nat → Int32} (hn : n < 65536) (hj : ∀ j, j < n → ft j = f j) (h : xStrV g w a v n ft) (h1 : g.2 0 + 269 ≤ a) (h2 : a < sz) (h3 : g.2 0 + 269 ≤ v) (h4 : v < sz) : xTx g w sz a n f := by
  rcases h with h | h
  · exact ⟨hn, v, ft, hj, Or.inl h⟩
  · exact ⟨hn, v, ft, hj, Or.inr ⟨h1, h2, h3, h4, h⟩⟩
theorem xTx.same {f2 : Nat → Int32} (h : xTx g w sz a n f) (he : ∀ j, j < n → f j = f2 j) : xTx g w sz a n f2 := by
  obtain ⟨hn, v, ft, hj, h1⟩ := h
  exact ⟨hn, v, ft, fun j h2 => (hj j h2).trans (he j h2), h1⟩
end XTX
theorem bi1_0 {n : Nat} (h : bi1 n = 0) : n = 0 := by
  unfold bi1 at h
  split at h
  · assumption
  · exact absurd h (by decide)
theorem bi1_1 {n : Nat} (h : ¬ bi1 n = 0) : n ≠ 0 := fun e => h (by rw [e]; rfl)
/-- the numbers of a house that begins -/
def x00 : Nat → Int32 := fun q => if q = 1 then 10 else if q = 2 then 20 else if q = 5 then 4 else if 28 ≤ q ∧ q < 208 then blankC ((q - 28) % 9) else 0
theorem x00_row (k : Nat) (hk : k < 20) (j : Nat) (hj : j < 8) : x00 (28 + 9 * k + j) = blankC j := by
  unfold x00
  rw [if_neg (by omega), if_neg (by omega), if_neg (by omega), if_pos (by omega), show (28 + 9 * k + j - 28) % 9 = j by omega]
/-- a house of which i chests stand -/
def HBf (g : xg_T) (h i q : Nat) : Option va_E :=
  if q = h then some (.inr (6, houseL h x00)) else if q = h + 1 then some (.inl (g.2 1, 18, .inl (fun _ => 0))) else if q = h + 2 then some (.inl (g.2 6, 20, .inr (.inr (.inr (.inr (fun j => if j < i then some (h + 3 + j) else none)))))) else some (.inr (3, chestE (nI (q - (h + 3))) blankC (g.2 100)))
def HB (g : xg_T) (w : xw_T) (h i : Nat) : xw_T := fun q => if h ≤ q ∧ q < h + 3 + i then HBf g h i q else w q
theorem HB_h {g : xg_T} {w : xw_T} {h i : Nat} : HB g w h i h = some (.inr (6, houseL h x00)) := by
  unfold HB HBf
  rw [if_pos (by omega), if_pos rfl]
theorem HB_c {g : xg_T} {w : xw_T} {h i : Nat} : HB g w h i (h + 2) = some (.inl (g.2 6, 20, .inr (.inr (.inr (.inr (fun j => if j < i then some (h + 3 + j) else none)))))) := by
  unfold HB HBf
  rw [if_pos (by omega), if_neg (by omega), if_neg (by omega), if_pos rfl]
theorem HB_1 {g : xg_T} {w : xw_T} {h i : Nat} (hi : i < 20) : xup (xup (HB g w h i) (h + 3 + i) (.inr (3, chestE (nI i) blankC (g.2 100)))) (h + 2) (.inl (g.2 6, 20, .inr (.inr (.inr (.inr (va_up (fun j => if j < i then some (h + 3 + j) else none) i (some (h + 3 + i)))))))) = HB g w h (i + 1) := by
  funext q
  unfold xup HB
  by_cases h1 : q = h + 2
  · subst h1
    rw [if_pos rfl, if_pos (by omega)]
    unfold HBf
    rw [if_neg (by omega), if_neg (by omega), if_pos rfl]
    refine congrArg (fun z => some (Sum.inl (g.2 6, 20, Sum.inr (Sum.inr (Sum.inr (Sum.inr z)))))) (funext fun j => ?_)
    unfold va_up
    by_cases hj : j = i
    · subst hj
      simp
    · by_cases h2 : j < i
      · simp [hj, h2, show j < i + 1 by omega]
      · simp [hj, h2, show ¬ j < i + 1 by omega]
  · rw [if_neg h1]
    by_cases h2 : q = h + 3 + i
    · rw [if_pos h2, if_pos (by omega)]
      unfold HBf
      rw [if_neg (by omega), if_neg (by omega), if_neg (by omega), show q - (h + 3) = i by omega]
    · rw [if_neg h2]
      by_cases h3 : h ≤ q ∧ q < h + 3 + i
      · rw [if_pos h3, if_pos (by omega)]
        unfold HBf
        by_cases h4 : q = h
        · rw [if_pos h4, if_pos h4]
        · rw [if_neg h4, if_neg h4]
          by_cases h5 : q = h + 1
          · rw [if_pos h5, if_pos h5]
          · rw [if_neg h5, if_neg h5, if_neg h1, if_neg h1]
      · rw [if_neg h3, if_neg (by omega)]
theorem HB_20 {g : xg_T} {w : xw_T} {h : Nat} : HB g w h 20 = HW g w h x00 (fun _ => g.2 100) := by
  funext q
  unfold HB HW
  by_cases h1 : h ≤ q ∧ q < h + 23
  · rw [if_pos (by omega), if_pos h1]
    unfold HBf HWf
    by_cases h4 : q = h
    · rw [if_pos h4, if_pos h4]
    · rw [if_neg h4, if_neg h4]
      by_cases h5 : q = h + 1
      · rw [if_pos h5, if_pos h5]
        congr 5
        funext j
        unfold mk
        split
        · unfold x00
          rw [if_neg (by omega), if_neg (by omega), if_neg (by omega), if_neg (by omega)]
        · rfl
      · rw [if_neg h5, if_neg h5]
        by_cases h6 : q = h + 2
        · rw [if_pos h6, if_pos h6]
        · rw [if_neg h6, if_neg h6]
          unfold chestL
          rw [chestE_eq (f := row x00 (q - (h + 3))) (f' := blankC) (fun j hj => x00_row _ (by omega) j hj)]
  · rw [if_neg (by omega), if_neg h1]
def readyOk (x : Nat → Int32) (ln : Nat → Nat) (k : Nat) : Prop := cTight (row x k) = true ∧ ln k ≠ 0
def quayOk (x : Nat → Int32) (ln : Nat → Nat) (k : Nat) : Prop := x (28 + 9 * k + 7) = 0 ∧ 0 < x (28 + 9 * k + 3) ∧ readyOk x ln k
def quayX (x : Nat → Int32) (k : Nat) : Nat → Int32 := upd x (28 + 9 * k + 7) 1
def labelOk (x : Nat → Int32) (k : Nat) : Prop := x (28 + 9 * k + 7) = 0 ∧ 0 < x (28 + 9 * k + 3)
def nat (x : Int32) : Nat := x.toNatClampNeg
def labLen (x : Nat → Int32) (k : Nat) : Nat := labN (nat (x (28 + 9 * k + 2))) (nat (x (28 + 9 * k + 3))) (decide (1 ≤ x (28 + 9 * k + 6)))
def labTxt (x : Nat → Int32) (k : Nat) : Nat → Int32 := labF (nat (x (28 + 9 * k + 1))) (nat (x (28 + 9 * k + 2))) (nat (x (28 + 9 * k + 3))) (decide (1 ≤ x (28 + 9 * k + 6)))
theorem labN16 {ki po : Nat} {da : Bool} (h : ki < 3) : labN ki po da ≤ 16 := by
  obtain ⟨-, -, h1, h2⟩ := lab16 (po := po) h
  unfold labN
  split <;> omega
/-- a chest out on the quay or the ship that is not tight or bears no label -/
def outBad (x : Nat → Int32) (ln : Nat → Nat) (i : Nat) : Prop := (x (28 + 9 * i + 7) = 1 ∨ x (28 + 9 * i + 7) = 2) ∧ ¬ (cTight (row x i) = true ∧ ln i ≠ 0)
theorem setRow_self (x : Nat → Int32) (k : Nat) : setRow x k (row x k) = x := by
  funext q
  unfold setRow row
  split
  · rename_i h
    rw [show 28 + 9 * k + (q - (28 + 9 * k)) = q by omega]
  · rfl
theorem HR_ext {g : xg_T} {w w1 : xw_T} {sz h : Nat} {x : Nat → Int32} {la : Nat → Nat} (hR : HR g w h x la) (he : xExt w w1 sz) (hz : h + 23 ≤ sz) : HR g w1 h x la := fun q h1 h2 => (he q (by omega)).trans (hR q h1 h2)
/-- the numbers of another house, but the reason and its detail -/
def cpS (x y : Nat → Int32) : Nat → Int32 := fun q => if 10 ≤ q ∧ q < 28 then y q else x q
def cpC (x y : Nat → Int32) : Nat → (Nat → Int32)
  | 0 => cpS x y
  | n + 1 => setRow (cpC x y n) n (row y n)
def cpL (la lb : Nat → Nat) : Nat → (Nat → Nat)
  | 0 => la
  | n + 1 => va_up (cpL la lb n) n (lb n)
def cpH (x y : Nat → Int32) : Nat → Int32 := upd (upd (upd (upd (upd (upd (upd (upd (upd (upd (cpC x y 20) 3 (y 3)) 1 (y 1)) 2 (y 2)) 0 (y 0)) 5 (y 5)) 4 (y 4)) 9 (y 9)) 6 (y 6)) 7 (y 7)) 8 (y 8)
theorem HW_cpS {g : xg_T} {w : xw_T} {h : Nat} {x y : Nat → Int32} {la : Nat → Nat} : xup (HW g w h x la) (h + 1) (.inl (g.2 1, 18, .inl (va_cpy (mk 18 10 y) (mk 18 10 x) 0 0 18))) = HW g w h (cpS x y) la := by
  have e1 : mk 18 10 (cpS x y) = va_cpy (mk 18 10 y) (mk 18 10 x) 0 0 18 := by
    funext j
    unfold mk va_cpy cpS
    by_cases hj : j < 18
    · simp [hj, show 10 ≤ 10 + j ∧ 10 + j < 28 by omega]
    · simp [hj]
  funext q
  unfold xup HW
  by_cases hq : q = h + 1
  · subst hq
    rw [if_pos rfl, if_pos (by omega)]
    unfold HWf
    rw [if_neg (by omega), if_pos rfl, e1]
  · rw [if_neg hq]
    by_cases hr : h ≤ q ∧ q < h + 23
    · rw [if_pos hr, if_pos hr]
      unfold HWf
      by_cases h1 : q = h
      · rw [if_pos h1, if_pos h1]
        rfl
      · rw [if_neg h1, if_neg h1, if_neg hq, if_neg hq]
        by_cases h2 : q = h + 2
        · rw [if_pos h2, if_pos h2]
        · rw [if_neg h2, if_neg h2]
          unfold chestL
          rw [chestE_eq (f := row x (q - (h + 3))) (f' := row (cpS x y) (q - (h + 3))) (fun j hj => by
            unfold row cpS
            rw [if_neg (by omega)])]
    · rw [if_neg hr, if_neg hr]
theorem cpC_at (x y : Nat → Int32) : ∀ n : Nat, n ≤ 20 → (∀ k j, k < n → j < 8 → cpC x y n (28 + 9 * k + j) = y (28 + 9 * k + j)) ∧ (∀ q, q < 28 ∨ 28 + 9 * n ≤ q → cpC x y n q = cpS x y q) := by
  intro n
  induction n with
  | zero => intro _; exact ⟨fun k j h => absurd h (by omega), fun q _ => rfl⟩
  | succ n ih =>
    intro hn
    obtain ⟨h1, h2⟩ := ih (by omega)
    refine ⟨fun k j hk hj => ?_, fun q hq => ?_⟩
    · by_cases hkn : k = n
      · subst hkn
        show setRow _ _ _ _ = _
        unfold setRow row
        rw [if_pos (by omega), show 28 + 9 * k + (28 + 9 * k + j - (28 + 9 * k)) = 28 + 9 * k + j by omega]
      · show setRow _ _ _ _ = _
        unfold setRow
        rw [if_neg (by omega)]
        exact h1 k j (by omega) hj
    · show setRow _ _ _ _ = _
      unfold setRow
      rw [if_neg (by omega)]
      exact h2 q (by omega)
theorem cpL_at (la lb : Nat → Nat) : ∀ n k : Nat, k < n → cpL la lb n k = lb k := by
  intro n
  induction n with
  | zero => intro k h; omega
  | succ n ih =>
    intro k hk
    show va_up _ _ _ _ = _
    unfold va_up
    by_cases h : k = n
    · rw [if_pos h, h]
    · rw [if_neg h]
      exact ih k (by omega)
/-- what a copy holds -/
theorem cpH_at (x y : Nat → Int32) : (∀ q, q < 28 → cpH x y q = y q) ∧ (∀ k j, k < 20 → j < 8 → cpH x y (28 + 9 * k + j) = y (28 + 9 * k + j)) ∧ cpH x y 208 = x 208 ∧ cpH x y 209 = x 209 := by
  obtain ⟨h1, h2⟩ := cpC_at x y 20 (by omega)
  unfold cpH upd
  refine ⟨fun q hq => ?_, fun k j hk hj => ?_, ?_, ?_⟩
  · by_cases h10 : 10 ≤ q
    · simp [show q ≠ 8 by omega, show q ≠ 7 by omega, show q ≠ 6 by omega, show q ≠ 9 by omega, show q ≠ 4 by omega, show q ≠ 5 by omega, show q ≠ 0 by omega, show q ≠ 2 by omega, show q ≠ 1 by omega, show q ≠ 3 by omega]
      rw [h2 q (Or.inl hq)]
      exact if_pos ⟨h10, hq⟩
    · have h9 : ∀ q, q < 10 → q = 0 ∨ q = 1 ∨ q = 2 ∨ q = 3 ∨ q = 4 ∨ q = 5 ∨ q = 6 ∨ q = 7 ∨ q = 8 ∨ q = 9 := by omega
      rcases h9 q (by omega) with rfl | rfl | rfl | rfl | rfl | rfl | rfl | rfl | rfl | rfl <;> simp
  · simp [show 28 + 9 * k + j ≠ 8 by omega, show 28 + 9 * k + j ≠ 7 by omega, show 28 + 9 * k + j ≠ 6 by omega, show 28 + 9 * k + j ≠ 9 by omega, show 28 + 9 * k + j ≠ 4 by omega, show 28 + 9 * k + j ≠ 5 by omega, show 28 + 9 * k + j ≠ 0 by omega, show 28 + 9 * k + j ≠ 2 by omega, show 28 + 9 * k + j ≠ 1 by omega, show 28 + 9 * k + j ≠ 3 by omega]
    exact h1 k j hk hj
  · simp
    rw [h2 208 (Or.inr (by omega))]
    exact if_neg (by omega)
  · simp
    rw [h2 209 (Or.inr (by omega))]
    exact if_neg (by omega)
theorem HW_c {g : xg_T} {w : xw_T} {h : Nat} {x y : Nat → Int32} {la lb : Nat → Nat} (h1 : ∀ q, q < 28 → x q = y q) (h2 : ∀ k j, k < 20 → j < 8 → x (28 + 9 * k + j) = y (28 + 9 * k + j)) (h3 : x 208 = y 208) (h4 : x 209 = y 209) (h5 : ∀ k, k < 20 → la k = lb k) : HW g w h x la = HW g w h y lb := by
  funext q
  unfold HW
  by_cases hr : h ≤ q ∧ q < h + 23
  · rw [if_pos hr, if_pos hr]
    unfold HWf
    by_cases e1 : q = h
    · rw [if_pos e1, if_pos e1]
      unfold houseL
      rw [h1 3 (by omega), h1 1 (by omega), h1 2 (by omega), h1 0 (by omega), h1 5 (by omega), h1 4 (by omega), h1 9 (by omega), h1 6 (by omega), h1 7 (by omega), h1 8 (by omega), h3, h4]
    · rw [if_neg e1, if_neg e1]
      by_cases e2 : q = h + 1
      · rw [if_pos e2, if_pos e2, mk_eq (y := y) (fun j hj => h1 _ (by omega))]
      · rw [if_neg e2, if_neg e2]
        by_cases e3 : q = h + 2
        · rw [if_pos e3, if_pos e3]
        · rw [if_neg e3, if_neg e3]
          unfold chestL
          rw [h5 _ (by omega), chestE_eq (f := row x (q - (h + 3))) (f' := row y (q - (h + 3))) (fun j hj => h2 _ j (by omega) hj)]
  · rw [if_neg hr, if_neg hr]
/-- the copy keeps its own reason -/
def cpX (x y : Nat → Int32) : Nat → Int32 := fun q => if q = 208 then x q else if q = 209 then x q else y q
theorem HW_cpH {g : xg_T} {w : xw_T} {h : Nat} {x y : Nat → Int32} {la lb : Nat → Nat} : HW g w h (cpH x y) (cpL la lb 20) = HW g w h (cpX x y) lb := by
  obtain ⟨h1, h2, h3, h4⟩ := cpH_at x y
  refine HW_c (fun q hq => ?_) (fun k j hk hj => ?_) ?_ ?_ (fun k hk => cpL_at la lb 20 k hk)
  · rw [h1 q hq]
    unfold cpX
    rw [if_neg (by omega), if_neg (by omega)]
  · rw [h2 k j hk hj]
    unfold cpX
    rw [if_neg (by omega), if_neg (by omega)]
  · rw [h3]; rfl
  · rw [h4]; rfl

set_option maxHeartbeats 4000000 in
set_option maxRecDepth 100000 in
theorem k_X4_isReadyForQuay (l : Launch) (hl : l.stackTraces = false) (g : xg_T) (w : xw_T) (sz : Nat) (h : Nat) (x : Nat → Int32) (la : Nat → Nat) (hR : HR g w h x la) (hA : xA g h) (k : Nat) (hk : k < 20) (ln : Nat → Nat) (lf : Nat → Nat → Int32) (hT : h + 23 ≤ g.2 0 + 269) (hL : ∀ k, k < 20 → xTx g w sz (la k) (ln k) (lf k)) : xM l g yX4_isReadyForQuay cX4_isReadyForQuay 2 (some .boolean) ({ frames := 2, cells := 0, slots := 0, locals := 40 }) 0 0 [.ref h, .ref (h + 3 + k)] w sz (fun r w1 sz1 => sz = sz1 ∧ ∃ x', w1 = HW g w h x' la ∧ chk (readyOk x ln k) x x' r) (fun _ _ _ => False) := by
  refine xM.of RX4 hl (by decide +kernel) rfl (Nat.le_of_ble_eq_true rfl) rfl ?_
  intro p e s m args below meth cD C0 hini
  refine x_aload_n 1 1 C0 dX4_isReadyForQuay_0 rfl rfl rfl ?_
  refine x_callV 4 C0 (k_X1_isTight l hl g _ _ _ _ _ _ (HR.c hR hk)) dX4_isReadyForQuay_1 rfl mC_X1_isTight mM_X4_126 mI_X1_isTight mV_X1_isTight mN_X1 yd_X1_isTight rfl rfl ⟨Nat.le_of_ble_eq_true rfl, Nat.le_of_ble_eq_true rfl⟩ (HR.c hR hk) rfl rfl rfl rfl (Nat.le_of_ble_eq_true rfl) ⟨Nat.le_of_ble_eq_true rfl, Nat.le_of_ble_eq_true rfl⟩ (fun _ _ _ q => False.elim q) (fun r w1 sz1 hz hP => ?_)
  obtain ⟨rfl, rfl, rfl⟩ := hP
  refine x_st (st1 := [.int (bi (cTight (row x k)))]) rfl ?_
  refine x_if_ne 18 7 C0 dX4_isReadyForQuay_4 rfl (by decide) (fun c1 => ?_) (fun c1 => ?_)
  · have c1 := bi_no c1
    refine x_aload_n 1 19 C0 dX4_isReadyForQuay_18 rfl rfl rfl ?_
    obtain ⟨v2, ft2, hS2, hn2, -⟩ := (hL k hk).str
    refine x_callV 22 C0 (k_X1_hasLabel l hl g _ _ _ _ _ _ (HR.c hR hk) v2 (ln k) ft2 hS2 hn2) dX4_isReadyForQuay_19 rfl mC_X1_hasLabel mM_X4_130 mI_X1_hasLabel mV_X1_hasLabel mN_X1 yd_X1_hasLabel rfl rfl ⟨Nat.le_of_ble_eq_true rfl, Nat.le_of_ble_eq_true rfl⟩ (HR.c hR hk) rfl rfl rfl rfl (Nat.le_of_ble_eq_true rfl) ⟨Nat.le_of_ble_eq_true rfl, Nat.le_of_ble_eq_true rfl⟩ (fun _ _ _ q => False.elim q) (fun r w1 sz1 hz hP => ?_)
    obtain ⟨rfl, rfl, rfl⟩ := hP
    refine x_st (st1 := [.int (bi1 (ln k))]) rfl ?_
    refine x_if_ne 38 25 C0 dX4_isReadyForQuay_22 rfl (by decide) (fun c3 => ?_) (fun c3 => ?_)
    · refine x_iconst (v := 1) 39 C0 dX4_isReadyForQuay_38 rfl (by decide) ?_
      refine x_goto 43 C0 dX4_isReadyForQuay_39 (by decide) ?_
      exact x_ireturn C0 dX4_isReadyForQuay_43 rfl rfl (Nat.le_of_ble_eq_true rfl) (Nat.le_of_ble_eq_true rfl) ⟨rfl, _, HW_self hR, Or.inl ⟨⟨c1, bi1_1 c3⟩, rfl, rfl⟩⟩
    · refine x_aload_n 0 26 C0 dX4_isReadyForQuay_25 rfl rfl rfl ?_
      refine x_bipush (v := 14) 28 C0 dX4_isReadyForQuay_26 rfl (by decide) ?_
      refine x_aload_n 1 29 C0 dX4_isReadyForQuay_28 rfl rfl rfl ?_
      refine x_getf (v := .int (nI k)) 0 32 C0 dX4_isReadyForQuay_29 rfl (HR.c hR hk) rfl (by decide) inX1 mF_X4_123 rfl ?_
      refine x_callV 35 C0 (k_X4_refuse l hl g _ _ _ _ _ hR hA 14 (nI k)) dX4_isReadyForQuay_32 rfl mC_X4_refuse mM_X4_81 mI_X4_refuse mV_X4_refuse mN_X4 yd_X4_refuse rfl rfl ⟨Nat.le_of_ble_eq_true rfl, Nat.le_of_ble_eq_true rfl⟩ (HR.ho hR) rfl rfl rfl rfl (Nat.le_of_ble_eq_true rfl) ⟨Nat.le_of_ble_eq_true rfl, Nat.le_of_ble_eq_true rfl⟩ (fun _ _ _ q => False.elim q) (fun r w1 sz1 hz hP => ?_)
      obtain ⟨rfl, rfl, rfl⟩ := hP
      refine x_st (st1 := [.int 0]) rfl ?_
      refine x_if_eq 42 38 C0 dX4_isReadyForQuay_35 rfl (by decide) (fun _ => ?_) (fun q => False.elim (by revert q; decide))
      refine x_iconst (v := 0) 43 C0 dX4_isReadyForQuay_42 rfl (by decide) ?_
      exact x_ireturn C0 dX4_isReadyForQuay_43 rfl rfl (Nat.le_of_ble_eq_true rfl) (Nat.le_of_ble_eq_true rfl) ⟨rfl, _, rfl, Or.inr ⟨fun q => q.2 (bi1_0 c3), rfl, _, _, rfl⟩⟩
  · have c1 := bi_yes c1
    refine x_aload_n 0 8 C0 dX4_isReadyForQuay_7 rfl rfl rfl ?_
    refine x_bipush (v := 13) 10 C0 dX4_isReadyForQuay_8 rfl (by decide) ?_
    refine x_aload_n 1 11 C0 dX4_isReadyForQuay_10 rfl rfl rfl ?_
    refine x_getf (v := .int (nI k)) 0 14 C0 dX4_isReadyForQuay_11 rfl (HR.c hR hk) rfl (by decide) inX1 mF_X4_123 rfl ?_
    refine x_callV 17 C0 (k_X4_refuse l hl g _ _ _ _ _ hR hA 13 (nI k)) dX4_isReadyForQuay_14 rfl mC_X4_refuse mM_X4_81 mI_X4_refuse mV_X4_refuse mN_X4 yd_X4_refuse rfl rfl ⟨Nat.le_of_ble_eq_true rfl, Nat.le_of_ble_eq_true rfl⟩ (HR.ho hR) rfl rfl rfl rfl (Nat.le_of_ble_eq_true rfl) ⟨Nat.le_of_ble_eq_true rfl, Nat.le_of_ble_eq_true rfl⟩ (fun _ _ _ q => False.elim q) (fun r w1 sz1 hz hP => ?_)
    obtain ⟨rfl, rfl, rfl⟩ := hP
    refine x_st (st1 := [.int 0]) rfl ?_
    exact x_ireturn C0 dX4_isReadyForQuay_17 rfl rfl (Nat.le_of_ble_eq_true rfl) (Nat.le_of_ble_eq_true rfl) ⟨rfl, _, rfl, Or.inr ⟨fun q => absurd (q.1.symm.trans c1) (by decide), rfl, _, _, rfl⟩⟩

set_option maxHeartbeats 4000000 in
set_option maxRecDepth 100000 in
theorem k_X4_tryToQuay (l : Launch) (hl : l.stackTraces = false) (g : xg_T) (w : xw_T) (sz : Nat) (h : Nat) (x : Nat → Int32) (la : Nat → Nat) (hR : HR g w h x la) (hA : xA g h) (k : Nat) (hk : k < 20) (ln : Nat → Nat) (lf : Nat → Nat → Int32) (hT : h + 23 ≤ g.2 0 + 269) (hL : ∀ k, k < 20 → xTx g w sz (la k) (ln k) (lf k)) : xM l g yX4_tryToQuay cX4_tryToQuay 2 (some .boolean) ({ frames := 3, cells := 0, slots := 0, locals := 61 }) 0 0 [.ref h, .ref (h + 3 + k)] w sz (fun r w1 sz1 => sz = sz1 ∧ ∃ x', w1 = HW g w h x' la ∧ tri (quayOk x ln k) (quayX x k) x x' r) (fun _ _ _ => False) := by
  refine xM.of RX4 hl (by decide +kernel) rfl (Nat.le_of_ble_eq_true rfl) rfl ?_
  intro p e s m args below meth cD C0 hini
  refine x_aload_n 0 1 C0 dX4_tryToQuay_0 rfl rfl rfl ?_
  refine x_aload_n 1 2 C0 dX4_tryToQuay_1 rfl rfl rfl ?_
  refine x_callV 5 C0 (k_X4_isInHouse l hl g _ _ _ _ _ hR hA k hk) dX4_tryToQuay_2 rfl mC_X4_isInHouse mM_X4_142 mI_X4_isInHouse mV_X4_isInHouse mN_X4 yd_X4_isInHouse rfl rfl ⟨Nat.le_of_ble_eq_true rfl, Nat.le_of_ble_eq_true rfl⟩ (HR.ho hR) rfl rfl rfl rfl (Nat.le_of_ble_eq_true rfl) ⟨Nat.le_of_ble_eq_true rfl, Nat.le_of_ble_eq_true rfl⟩ (fun _ _ _ q => False.elim q) (fun r w1 sz1 hz hP => ?_)
  obtain ⟨rfl, x1, rfl, hQ1⟩ := hP
  rcases hQ1 with ⟨hC1, rfl, rfl⟩ | ⟨hC1, rfl, hx1⟩
  · refine x_st (st1 := [.int 1]) rfl ?_
    refine x_if_eq 24 8 C0 dX4_tryToQuay_5 rfl (by decide) (fun q => False.elim (by revert q; decide)) (fun _ => ?_)
    refine x_aload_n 0 9 C0 dX4_tryToQuay_8 rfl rfl rfl ?_
    refine x_aload_n 1 10 C0 dX4_tryToQuay_9 rfl rfl rfl ?_
    refine x_callV 13 C0 (k_X4_isFilled l hl g _ _ _ _ _ HR_HW hA k hk) dX4_tryToQuay_10 rfl mC_X4_isFilled mM_X4_171 mI_X4_isFilled mV_X4_isFilled mN_X4 yd_X4_isFilled rfl rfl ⟨Nat.le_of_ble_eq_true rfl, Nat.le_of_ble_eq_true rfl⟩ (HR.ho HR_HW) rfl rfl rfl rfl (Nat.le_of_ble_eq_true rfl) ⟨Nat.le_of_ble_eq_true rfl, Nat.le_of_ble_eq_true rfl⟩ (fun _ _ _ q => False.elim q) (fun r w1 sz1 hz hP => ?_)
    obtain ⟨rfl, x3, rfl, hQ3⟩ := hP
    rcases hQ3 with ⟨hC3, rfl, rfl⟩ | ⟨hC3, rfl, hx3⟩
    · refine x_w HW_HW ?_
      refine x_st (st1 := [.int 1]) rfl ?_
      refine x_if_eq 24 16 C0 dX4_tryToQuay_13 rfl (by decide) (fun q => False.elim (by revert q; decide)) (fun _ => ?_)
      refine x_aload_n 0 17 C0 dX4_tryToQuay_16 rfl rfl rfl ?_
      refine x_aload_n 1 18 C0 dX4_tryToQuay_17 rfl rfl rfl ?_
      refine x_callV 21 C0 (k_X4_isReadyForQuay l hl g _ _ _ _ _ HR_HW hA k hk ln lf hT (fun k9 hk9 => (hL k9 hk9).hw hT)) dX4_tryToQuay_18 rfl mC_X4_isReadyForQuay mM_X4_202 mI_X4_isReadyForQuay mV_X4_isReadyForQuay mN_X4 yd_X4_isReadyForQuay rfl rfl ⟨Nat.le_of_ble_eq_true rfl, Nat.le_of_ble_eq_true rfl⟩ (HR.ho HR_HW) rfl rfl rfl rfl (Nat.le_of_ble_eq_true rfl) ⟨Nat.le_of_ble_eq_true rfl, Nat.le_of_ble_eq_true rfl⟩ (fun _ _ _ q => False.elim q) (fun r w1 sz1 hz hP => ?_)
      obtain ⟨rfl, x5, rfl, hQ5⟩ := hP
      rcases hQ5 with ⟨hC5, rfl, rfl⟩ | ⟨hC5, rfl, hx5⟩
      · refine x_w HW_HW ?_
        refine x_st (st1 := [.int 1]) rfl ?_
        refine x_if_ne 26 24 C0 dX4_tryToQuay_21 rfl (by decide) (fun _ => ?_) (fun q => False.elim (by revert q; decide))
        refine x_aload_n 1 27 C0 dX4_tryToQuay_26 rfl rfl rfl ?_
        refine x_iconst (v := 1) 28 C0 dX4_tryToQuay_27 rfl (by decide) ?_
        refine x_putf 8 31 C0 dX4_tryToQuay_28 rfl (HR.c HR_HW hk) (xA_le hA (by omega)) rfl (by decide) inX1 tyX1_ok nmX1 mF_X4_99 rfl rfl rfl rfl (Nat.le_of_ble_eq_true rfl) ?_
        refine x_w (w1 := HW g w h (upd x (28 + 9 * k + 7) 1) la) (HW_putC1 hk (by decide) (chestS7 _ _ _ _)) ?_
        refine x_iconst (v := 1) 32 C0 dX4_tryToQuay_31 rfl (by decide) ?_
        exact x_ireturn C0 dX4_tryToQuay_32 rfl rfl (Nat.le_of_ble_eq_true rfl) (Nat.le_of_ble_eq_true rfl) ⟨rfl, _, rfl, Or.inl ⟨⟨hC1, hC3, hC5⟩, rfl, rfl⟩⟩
      · refine x_w HW_HW ?_
        refine x_st (st1 := [.int 0]) rfl ?_
        refine x_if_ne 26 24 C0 dX4_tryToQuay_21 rfl (by decide) (fun q => False.elim (by revert q; decide)) (fun _ => ?_)
        refine x_iconst (v := 0) 25 C0 dX4_tryToQuay_24 rfl (by decide) ?_
        exact x_ireturn C0 dX4_tryToQuay_25 rfl rfl (Nat.le_of_ble_eq_true rfl) (Nat.le_of_ble_eq_true rfl) ⟨rfl, _, rfl, Or.inr ⟨fun q => hC5 q.2.2, rfl, hx5⟩⟩
    · refine x_w HW_HW ?_
      refine x_st (st1 := [.int 0]) rfl ?_
      refine x_if_eq 24 16 C0 dX4_tryToQuay_13 rfl (by decide) (fun _ => ?_) (fun q => False.elim (by revert q; decide))
      refine x_iconst (v := 0) 25 C0 dX4_tryToQuay_24 rfl (by decide) ?_
      exact x_ireturn C0 dX4_tryToQuay_25 rfl rfl (Nat.le_of_ble_eq_true rfl) (Nat.le_of_ble_eq_true rfl) ⟨rfl, _, rfl, Or.inr ⟨fun q => hC3 q.2.1, rfl, hx3⟩⟩
  · refine x_st (st1 := [.int 0]) rfl ?_
    refine x_if_eq 24 8 C0 dX4_tryToQuay_5 rfl (by decide) (fun _ => ?_) (fun q => False.elim (by revert q; decide))
    refine x_iconst (v := 0) 25 C0 dX4_tryToQuay_24 rfl (by decide) ?_
    exact x_ireturn C0 dX4_tryToQuay_25 rfl rfl (Nat.le_of_ble_eq_true rfl) (Nat.le_of_ble_eq_true rfl) ⟨rfl, _, rfl, Or.inr ⟨fun q => hC1 q.1, rfl, hx1⟩⟩

theorem labOf {g : xg_T} {w : xw_T} {sz k ga ki po : Nat} {x ft : Nat → Int32} (hTz : g.2 0 + 269 ≤ sz) (ek : row x k 2 = nI ki) (ep : row x k 3 = nI po) (eg : row x k 1 = nI ga) (h1 : ki < 3) (h2 : po < 100) (h3 : ga < 6) (hj : ∀ j, j < labN ki po (decide (1 ≤ row x k 6)) → ft j = labF ga ki po (decide (1 ≤ row x k 6)) j) (hS : xStrV g w (sz + 2) (sz + 3) (labN ki po (decide (1 ≤ row x k 6))) ft) : xTx g w (sz + 1 + 1 + 1 + 1) (sz + 2) (labLen x k) (labTxt x k) := by
  have e2 : nat (x (28 + 9 * k + 2)) = ki := by
    show (row x k 2).toNatClampNeg = ki
    rw [ek]
    exact nI_clamp (by omega)
  have e3 : nat (x (28 + 9 * k + 3)) = po := by
    show (row x k 3).toNatClampNeg = po
    rw [ep]
    exact nI_clamp (by omega)
  have e1 : nat (x (28 + 9 * k + 1)) = ga := by
    show (row x k 1).toNatClampNeg = ga
    rw [eg]
    exact nI_clamp (by omega)
  unfold labLen labTxt
  rw [e1, e2, e3]
  have h9 := labN16 (ki := ki) (po := po) (da := decide (1 ≤ x (28 + 9 * k + 6))) h1
  exact xTx.of (by omega) hj hS (by omega) (by omega) (by omega) (by omega)
set_option maxHeartbeats 4000000 in
set_option maxRecDepth 100000 in
theorem k_X4_tryLabel (l : Launch) (hl : l.stackTraces = false) (g : xg_T) (w : xw_T) (sz : Nat) (h : Nat) (x : Nat → Int32) (la : Nat → Nat) (hR : HR g w h x la) (hA : xA g h) (k : Nat) (hk : k < 20) (hF : 0 < x (28 + 9 * k + 3) → ∃ ga ki po : Nat, ga < 6 ∧ ki < 3 ∧ po < 100 ∧ row x k 1 = nI ga ∧ row x k 2 = nI ki ∧ row x k 3 = nI po) (hz23 : h + 23 ≤ sz) (hTz : g.2 0 + 269 ≤ sz) : xM l g yX4_tryLabel cX4_tryLabel 2 (some .boolean) ({ frames := 7, cells := 4, slots := 40, locals := 172 }) 4 40 [.ref h, .ref (h + 3 + k)] w sz (fun r w1 sz1 => (labelOk x k ∧ r = some (.int 1) ∧ (∃ w2 : xw_T, xExt (HW g w h x la) w2 sz ∧ w1 = HW g w2 h x (va_up la k (sz + 2)) ∧ xTx g w2 (sz + 1 + 1 + 1 + 1) (sz + 2) (labLen x k) (labTxt x k)) ∧ sz + 1 + 1 + 1 + 1 = sz1) ∨ (¬ labelOk x k ∧ r = some (.int 0) ∧ (∃ x', refd x x' ∧ w1 = HW g w h x' la) ∧ sz = sz1)) (fun _ _ _ => False) := by
  refine xM.of RX4 hl (by decide +kernel) rfl (Nat.le_of_ble_eq_true rfl) rfl ?_
  intro p e s m args below meth cD C0 hini
  refine x_aload_n 0 1 C0 dX4_tryLabel_0 rfl rfl rfl ?_
  refine x_aload_n 1 2 C0 dX4_tryLabel_1 rfl rfl rfl ?_
  refine x_callV 5 C0 (k_X4_isInHouse l hl g _ _ _ _ _ hR hA k hk) dX4_tryLabel_2 rfl mC_X4_isInHouse mM_X4_142 mI_X4_isInHouse mV_X4_isInHouse mN_X4 yd_X4_isInHouse rfl rfl ⟨Nat.le_of_ble_eq_true rfl, Nat.le_of_ble_eq_true rfl⟩ (HR.ho hR) rfl rfl rfl rfl (Nat.le_of_ble_eq_true rfl) ⟨Nat.le_of_ble_eq_true rfl, Nat.le_of_ble_eq_true rfl⟩ (fun _ _ _ q => False.elim q) (fun r w1 sz1 hz hP => ?_)
  obtain ⟨rfl, x1, rfl, hQ1⟩ := hP
  rcases hQ1 with ⟨hC1, rfl, rfl⟩ | ⟨hC1, rfl, hx1⟩
  · refine x_st (st1 := [.int 1]) rfl ?_
    refine x_if_eq 16 8 C0 dX4_tryLabel_5 rfl (by decide) (fun q => False.elim (by revert q; decide)) (fun _ => ?_)
    refine x_aload_n 0 9 C0 dX4_tryLabel_8 rfl rfl rfl ?_
    refine x_aload_n 1 10 C0 dX4_tryLabel_9 rfl rfl rfl ?_
    refine x_callV 13 C0 (k_X4_isFilled l hl g _ _ _ _ _ HR_HW hA k hk) dX4_tryLabel_10 rfl mC_X4_isFilled mM_X4_171 mI_X4_isFilled mV_X4_isFilled mN_X4 yd_X4_isFilled rfl rfl ⟨Nat.le_of_ble_eq_true rfl, Nat.le_of_ble_eq_true rfl⟩ (HR.ho HR_HW) rfl rfl rfl rfl (Nat.le_of_ble_eq_true rfl) ⟨Nat.le_of_ble_eq_true rfl, Nat.le_of_ble_eq_true rfl⟩ (fun _ _ _ q => False.elim q) (fun r w1 sz1 hz hP => ?_)
    obtain ⟨rfl, x3, rfl, hQ3⟩ := hP
    rcases hQ3 with ⟨hC3, rfl, rfl⟩ | ⟨hC3, rfl, hx3⟩
    · refine x_w HW_HW ?_
      refine x_st (st1 := [.int 1]) rfl ?_
      refine x_if_ne 18 16 C0 dX4_tryLabel_13 rfl (by decide) (fun _ => ?_) (fun q => False.elim (by revert q; decide))
      refine x_aload_n 1 19 C0 dX4_tryLabel_18 rfl rfl rfl ?_
      obtain ⟨ga, ki, po, hga, hki, hpo, eg, ek, ep⟩ := hF hC3
      refine x_callV 22 C0 (k_X1_writeLabel l hl g _ _ _ _ _ _ (HR.c HR_HW hk) (xA_le hA (by omega)) (by omega) (xA_le hA (by omega)) ga ki po hga hki hpo eg ek ep) dX4_tryLabel_19 rfl mC_X1_writeLabel mM_X4_186 mI_X1_writeLabel mV_X1_writeLabel mN_X1 yd_X1_writeLabel rfl rfl ⟨Nat.le_of_ble_eq_true rfl, Nat.le_of_ble_eq_true rfl⟩ (HR.c HR_HW hk) rfl rfl rfl rfl (Nat.le_of_ble_eq_true rfl) ⟨Nat.le_of_ble_eq_true rfl, Nat.le_of_ble_eq_true rfl⟩ (fun _ _ _ q => False.elim q) (fun r w1 sz1 hz hP => ?_)
      obtain ⟨rfl, ⟨w2, hE, rfl, ht, hj, hS⟩, rfl⟩ := hP
      have hR2 := HR_ext HR_HW hE hz23
      refine x_w (w1 := HW g w2 h x (va_up la k (sz + 2))) ((congrArg (fun z => xup z (h + 3 + k) (.inr (3, chestE (nI k) (row x k) (sz + 2)))) (HW_self hR2)).trans (by rw [HW_putRowL hk, setRow_self])) ?_
      refine x_st (st1 := []) rfl ?_
      refine x_iconst (v := 1) 23 C0 dX4_tryLabel_22 rfl (by decide) ?_
      exact x_ireturn C0 dX4_tryLabel_23 rfl rfl (Nat.le_of_ble_eq_true rfl) (Nat.le_of_ble_eq_true rfl) (Or.inl ⟨⟨hC1, hC3⟩, rfl, ⟨w2, fun q hq => (hE q hq), rfl, labOf hTz ek ep eg (by omega) (by omega) (by omega) hj hS⟩, rfl⟩)
    · refine x_w HW_HW ?_
      refine x_st (st1 := [.int 0]) rfl ?_
      refine x_if_ne 18 16 C0 dX4_tryLabel_13 rfl (by decide) (fun q => False.elim (by revert q; decide)) (fun _ => ?_)
      refine x_iconst (v := 0) 17 C0 dX4_tryLabel_16 rfl (by decide) ?_
      exact x_ireturn C0 dX4_tryLabel_17 rfl rfl (Nat.le_of_ble_eq_true rfl) (Nat.le_of_ble_eq_true rfl) (Or.inr ⟨fun q => hC3 q.2, rfl, ⟨_, hx3, rfl⟩, rfl⟩)
  · refine x_st (st1 := [.int 0]) rfl ?_
    refine x_if_eq 16 8 C0 dX4_tryLabel_5 rfl (by decide) (fun _ => ?_) (fun q => False.elim (by revert q; decide))
    refine x_iconst (v := 0) 17 C0 dX4_tryLabel_16 rfl (by decide) ?_
    exact x_ireturn C0 dX4_tryLabel_17 rfl rfl (Nat.le_of_ble_eq_true rfl) (Nat.le_of_ble_eq_true rfl) (Or.inr ⟨fun q => hC1 q.1, rfl, ⟨_, hx1, rfl⟩, rfl⟩)

set_option maxHeartbeats 4000000 in
set_option maxRecDepth 100000 in
theorem k_X4_isOutsideInOrder (l : Launch) (hl : l.stackTraces = false) (g : xg_T) (w : xw_T) (sz : Nat) (h : Nat) (x : Nat → Int32) (la : Nat → Nat) (hR : HR g w h x la) (ln : Nat → Nat) (lf : Nat → Nat → Int32) (hT : h + 23 ≤ g.2 0 + 269) (hL : ∀ k, k < 20 → xTx g w sz (la k) (ln k) (lf k)) : xM l g yX4_isOutsideInOrder cX4_isOutsideInOrder 6 (some .boolean) ({ frames := 2, cells := 0, slots := 0, locals := 40 }) 0 0 [.ref h] w sz (fun r w1 sz1 => ((r = some (.int 1) ∧ ∀ i, i < 20 → ¬ outBad x ln i) ∨ (r = some (.int 0) ∧ ∃ i, i < 20 ∧ outBad x ln i)) ∧ w = w1 ∧ sz = sz1) (fun _ _ _ => False) := by
  refine xM.of RX4 hl (by decide +kernel) rfl (Nat.le_of_ble_eq_true rfl) rfl ?_
  intro p e s m args below meth cD C0 hini
  refine x_aload_n 0 1 C0 dX4_isOutsideInOrder_0 rfl rfl rfl ?_
  refine x_getf (v := .ref (h + 2)) 1 4 C0 dX4_isOutsideInOrder_1 rfl (HR.ho hR) rfl (by decide) inX4 mF_X4_21 rfl ?_
  refine x_astore_n [(1, .ref (h + 2)), (0, .ref h)] 5 C0 dX4_isOutsideInOrder_4 rfl rfl (by decide) rfl ?_
  refine x_lv (lv1 := [(0, .ref h), (1, .ref (h + 2))]) [1, 0] rfl ?_
  refine x_aload_n 1 6 C0 dX4_isOutsideInOrder_5 rfl rfl rfl ?_
  refine x_alen 5 7 C0 (v := 20) dX4_isOutsideInOrder_6 rfl (HR.cs hR) rfl rfl ?_
  refine x_istore_n [(2, .int 20), (0, .ref h), (1, .ref (h + 2))] 8 C0 dX4_isOutsideInOrder_7 rfl rfl (by decide) rfl ?_
  refine x_lv (lv1 := [(0, .ref h), (1, .ref (h + 2)), (2, .int 20)]) [1, 2, 0] rfl ?_
  refine x_iconst (v := 0) 9 C0 dX4_isOutsideInOrder_8 rfl (by decide) ?_
  refine x_istore_n [(3, .int 0), (0, .ref h), (1, .ref (h + 2)), (2, .int 20)] 10 C0 dX4_isOutsideInOrder_9 rfl rfl (by decide) rfl ?_
  refine x_lv (lv1 := [(0, .ref h), (1, .ref (h + 2)), (2, .int 20), (3, .int 0)]) [1, 2, 3, 0] rfl ?_
  have loop10 : ∀ (N i : Nat), i ≤ 20 → 20 - i < N → (∀ j, j < i → ¬ outBad x ln j) → xV p l e ({ frames := 2, cells := 0, slots := 0, locals := 40 }) s m args below meth cD (xQ g below (fun r w1 sz1 => ((r = some (.int 1) ∧ ∀ i, i < 20 → ¬ outBad x ln i) ∨ (r = some (.int 0) ∧ ∃ i, i < 20 ∧ outBad x ln i)) ∧ w = w1 ∧ sz = sz1) (fun _ _ _ => False) args s 0 0) g 6 w sz (0) (0) 10 [(0, .ref h), (1, .ref (h + 2)), (2, .int 20), (3, .int (nI i))] [] := by
    intro N
    induction N with
    | zero => intro i h1 h2; omega
    | succ N ih =>
      intro i hi hN hB
      refine x_iload_n 3 11 C0 dX4_isOutsideInOrder_10 rfl rfl rfl ?_
      refine x_iload_n 2 12 C0 dX4_isOutsideInOrder_11 rfl rfl rfl ?_
      refine x_icmp_ge 74 15 C0 dX4_isOutsideInOrder_12 rfl (by decide) (fun c1 => ?_) (fun c1 => ?_)
      · have hI := ix_eq 20 rfl (by decide) hi c1
        subst hI
        refine x_iconst (v := 1) 75 C0 dX4_isOutsideInOrder_74 rfl (by decide) ?_
        exact x_ireturn C0 dX4_isOutsideInOrder_75 rfl rfl (Nat.le_of_ble_eq_true rfl) (Nat.le_of_ble_eq_true rfl) ⟨Or.inl ⟨rfl, hB⟩, rfl, rfl⟩
      · have hi2 := ix_lt 20 rfl (by decide) hi c1
        refine x_aload_n 1 16 C0 dX4_isOutsideInOrder_15 rfl rfl rfl ?_
        refine x_iload_n 3 17 C0 dX4_isOutsideInOrder_16 rfl rfl rfl ?_
        refine x_aald 5 18 C0 dX4_isOutsideInOrder_17 rfl (HR.cs hR) rfl (vp_in_nI hi2 (by decide)) ?_
        refine x_st (st1 := [.ref (h + 3 + i)]) (congrArg (· :: _) (chRef hi2)) ?_
        refine x_astore [(4, .ref (h + 3 + i)), (0, .ref h), (1, .ref (h + 2)), (2, .int 20), (3, .int (nI i))] 20 C0 dX4_isOutsideInOrder_18 rfl (by decide) rfl ?_
        refine x_lv (lv1 := [(0, .ref h), (1, .ref (h + 2)), (2, .int 20), (3, .int (nI i)), (4, .ref (h + 3 + i))]) [1, 2, 3, 4, 0] rfl ?_
        refine x_aload 4 22 C0 dX4_isOutsideInOrder_20 rfl rfl ?_
        refine x_getf (v := .int (x (28 + 9 * i + 7))) 8 25 C0 dX4_isOutsideInOrder_22 rfl (HR.c hR hi2) rfl (by decide) inX1 mF_X4_99 rfl ?_
        refine x_iconst (v := 1) 26 C0 dX4_isOutsideInOrder_25 rfl (by decide) ?_
        refine x_icmp_eq 38 29 C0 dX4_isOutsideInOrder_26 rfl (by decide) (fun c2 => ?_) (fun c2 => ?_)
        · refine x_iconst (v := 1) 39 C0 dX4_isOutsideInOrder_38 rfl (by decide) ?_
          refine x_goto 43 C0 dX4_isOutsideInOrder_39 (by decide) ?_
          refine x_istore [(5, .int 1), (0, .ref h), (1, .ref (h + 2)), (2, .int 20), (3, .int (nI i)), (4, .ref (h + 3 + i))] 45 C0 dX4_isOutsideInOrder_43 rfl (by decide) rfl ?_
          refine x_lv (lv1 := [(0, .ref h), (1, .ref (h + 2)), (2, .int 20), (3, .int (nI i)), (4, .ref (h + 3 + i)), (5, .int 1)]) [1, 2, 3, 4, 5, 0] rfl ?_
          refine x_iload 5 47 C0 dX4_isOutsideInOrder_45 rfl rfl ?_
          refine x_if_eq 68 50 C0 dX4_isOutsideInOrder_47 rfl (by decide) (fun q => False.elim (by revert q; decide)) (fun _ => ?_)
          refine x_aload 4 52 C0 dX4_isOutsideInOrder_50 rfl rfl ?_
          refine x_callV 55 C0 (k_X1_isTight l hl g _ _ _ _ _ _ (HR.c hR hi2)) dX4_isOutsideInOrder_52 rfl mC_X1_isTight mM_X4_126 mI_X1_isTight mV_X1_isTight mN_X1 yd_X1_isTight rfl rfl ⟨Nat.le_of_ble_eq_true rfl, Nat.le_of_ble_eq_true rfl⟩ (HR.c hR hi2) rfl rfl rfl rfl (Nat.le_of_ble_eq_true rfl) ⟨Nat.le_of_ble_eq_true rfl, Nat.le_of_ble_eq_true rfl⟩ (fun _ _ _ q => False.elim q) (fun r w1 sz1 hz hP => ?_)
          obtain ⟨rfl, rfl, rfl⟩ := hP
          refine x_st (st1 := [.int (bi (cTight (row x i)))]) rfl ?_
          refine x_if_eq 66 58 C0 dX4_isOutsideInOrder_55 rfl (by decide) (fun c4 => ?_) (fun c4 => ?_)
          · have c4 := bi_yes c4
            refine x_iconst (v := 0) 67 C0 dX4_isOutsideInOrder_66 rfl (by decide) ?_
            exact x_ireturn C0 dX4_isOutsideInOrder_67 rfl rfl (Nat.le_of_ble_eq_true rfl) (Nat.le_of_ble_eq_true rfl) ⟨Or.inr ⟨rfl, i, hi2, by simp_all [outBad, bi1]⟩, rfl, rfl⟩
          · have c4 := bi_no c4
            refine x_aload 4 60 C0 dX4_isOutsideInOrder_58 rfl rfl ?_
            obtain ⟨v5, ft5, hS5, hn5, -⟩ := (hL i hi2).str
            refine x_callV 63 C0 (k_X1_hasLabel l hl g _ _ _ _ _ _ (HR.c hR hi2) v5 (ln i) ft5 hS5 hn5) dX4_isOutsideInOrder_60 rfl mC_X1_hasLabel mM_X4_130 mI_X1_hasLabel mV_X1_hasLabel mN_X1 yd_X1_hasLabel rfl rfl ⟨Nat.le_of_ble_eq_true rfl, Nat.le_of_ble_eq_true rfl⟩ (HR.c hR hi2) rfl rfl rfl rfl (Nat.le_of_ble_eq_true rfl) ⟨Nat.le_of_ble_eq_true rfl, Nat.le_of_ble_eq_true rfl⟩ (fun _ _ _ q => False.elim q) (fun r w1 sz1 hz hP => ?_)
            obtain ⟨rfl, rfl, rfl⟩ := hP
            refine x_st (st1 := [.int (bi1 (ln i))]) rfl ?_
            refine x_if_ne 68 66 C0 dX4_isOutsideInOrder_63 rfl (by decide) (fun c6 => ?_) (fun c6 => ?_)
            · refine x_iinc [(3, .int (nI (i + 1))), (0, .ref h), (1, .ref (h + 2)), (2, .int 20), (4, .ref (h + 3 + i)), (5, .int 1)] 3 71 C0 dX4_isOutsideInOrder_68 rfl rfl (nI_1 i) (by decide) rfl ?_
              refine x_lv (lv1 := [(0, .ref h), (1, .ref (h + 2)), (2, .int 20), (3, .int (nI (i + 1))), (4, .ref (h + 3 + i)), (5, .int 1)]) [1, 2, 3, 0, 4, 5] rfl ?_
              refine x_goto 10 C0 dX4_isOutsideInOrder_71 (by decide) ?_
              have e9 : ¬ outBad x ln i := by simp_all [outBad, bi1]
              have q9 := ih (i + 1) (by omega) (by omega) (fun j hj => by
                  by_cases h8 : j = i
                  · rw [h8]; exact e9
                  · exact hB j (by omega))
              exact x_lv [0, 1, 2, 3] rfl q9
            · refine x_iconst (v := 0) 67 C0 dX4_isOutsideInOrder_66 rfl (by decide) ?_
              exact x_ireturn C0 dX4_isOutsideInOrder_67 rfl rfl (Nat.le_of_ble_eq_true rfl) (Nat.le_of_ble_eq_true rfl) ⟨Or.inr ⟨rfl, i, hi2, by simp_all [outBad, bi1]⟩, rfl, rfl⟩
        · refine x_aload 4 31 C0 dX4_isOutsideInOrder_29 rfl rfl ?_
          refine x_getf (v := .int (x (28 + 9 * i + 7))) 8 34 C0 dX4_isOutsideInOrder_31 rfl (HR.c hR hi2) rfl (by decide) inX1 mF_X4_99 rfl ?_
          refine x_iconst (v := 2) 35 C0 dX4_isOutsideInOrder_34 rfl (by decide) ?_
          refine x_icmp_ne 42 38 C0 dX4_isOutsideInOrder_35 rfl (by decide) (fun c7 => ?_) (fun c7 => ?_)
          · refine x_iconst (v := 0) 43 C0 dX4_isOutsideInOrder_42 rfl (by decide) ?_
            refine x_istore [(5, .int 0), (0, .ref h), (1, .ref (h + 2)), (2, .int 20), (3, .int (nI i)), (4, .ref (h + 3 + i))] 45 C0 dX4_isOutsideInOrder_43 rfl (by decide) rfl ?_
            refine x_lv (lv1 := [(0, .ref h), (1, .ref (h + 2)), (2, .int 20), (3, .int (nI i)), (4, .ref (h + 3 + i)), (5, .int 0)]) [1, 2, 3, 4, 5, 0] rfl ?_
            refine x_iload 5 47 C0 dX4_isOutsideInOrder_45 rfl rfl ?_
            refine x_if_eq 68 50 C0 dX4_isOutsideInOrder_47 rfl (by decide) (fun _ => ?_) (fun q => False.elim (by revert q; decide))
            refine x_iinc [(3, .int (nI (i + 1))), (0, .ref h), (1, .ref (h + 2)), (2, .int 20), (4, .ref (h + 3 + i)), (5, .int 0)] 3 71 C0 dX4_isOutsideInOrder_68 rfl rfl (nI_1 i) (by decide) rfl ?_
            refine x_lv (lv1 := [(0, .ref h), (1, .ref (h + 2)), (2, .int 20), (3, .int (nI (i + 1))), (4, .ref (h + 3 + i)), (5, .int 0)]) [1, 2, 3, 0, 4, 5] rfl ?_
            refine x_goto 10 C0 dX4_isOutsideInOrder_71 (by decide) ?_
            have e9 : ¬ outBad x ln i := by simp_all [outBad, bi1]
            have q9 := ih (i + 1) (by omega) (by omega) (fun j hj => by
                by_cases h8 : j = i
                · rw [h8]; exact e9
                · exact hB j (by omega))
            exact x_lv [0, 1, 2, 3] rfl q9
          · refine x_iconst (v := 1) 39 C0 dX4_isOutsideInOrder_38 rfl (by decide) ?_
            refine x_goto 43 C0 dX4_isOutsideInOrder_39 (by decide) ?_
            refine x_istore [(5, .int 1), (0, .ref h), (1, .ref (h + 2)), (2, .int 20), (3, .int (nI i)), (4, .ref (h + 3 + i))] 45 C0 dX4_isOutsideInOrder_43 rfl (by decide) rfl ?_
            refine x_lv (lv1 := [(0, .ref h), (1, .ref (h + 2)), (2, .int 20), (3, .int (nI i)), (4, .ref (h + 3 + i)), (5, .int 1)]) [1, 2, 3, 4, 5, 0] rfl ?_
            refine x_iload 5 47 C0 dX4_isOutsideInOrder_45 rfl rfl ?_
            refine x_if_eq 68 50 C0 dX4_isOutsideInOrder_47 rfl (by decide) (fun q => False.elim (by revert q; decide)) (fun _ => ?_)
            refine x_aload 4 52 C0 dX4_isOutsideInOrder_50 rfl rfl ?_
            refine x_callV 55 C0 (k_X1_isTight l hl g _ _ _ _ _ _ (HR.c hR hi2)) dX4_isOutsideInOrder_52 rfl mC_X1_isTight mM_X4_126 mI_X1_isTight mV_X1_isTight mN_X1 yd_X1_isTight rfl rfl ⟨Nat.le_of_ble_eq_true rfl, Nat.le_of_ble_eq_true rfl⟩ (HR.c hR hi2) rfl rfl rfl rfl (Nat.le_of_ble_eq_true rfl) ⟨Nat.le_of_ble_eq_true rfl, Nat.le_of_ble_eq_true rfl⟩ (fun _ _ _ q => False.elim q) (fun r w1 sz1 hz hP => ?_)
            obtain ⟨rfl, rfl, rfl⟩ := hP
            refine x_st (st1 := [.int (bi (cTight (row x i)))]) rfl ?_
            refine x_if_eq 66 58 C0 dX4_isOutsideInOrder_55 rfl (by decide) (fun c10 => ?_) (fun c10 => ?_)
            · have c10 := bi_yes c10
              refine x_iconst (v := 0) 67 C0 dX4_isOutsideInOrder_66 rfl (by decide) ?_
              exact x_ireturn C0 dX4_isOutsideInOrder_67 rfl rfl (Nat.le_of_ble_eq_true rfl) (Nat.le_of_ble_eq_true rfl) ⟨Or.inr ⟨rfl, i, hi2, by simp_all [outBad, bi1]⟩, rfl, rfl⟩
            · have c10 := bi_no c10
              refine x_aload 4 60 C0 dX4_isOutsideInOrder_58 rfl rfl ?_
              obtain ⟨v11, ft11, hS11, hn11, -⟩ := (hL i hi2).str
              refine x_callV 63 C0 (k_X1_hasLabel l hl g _ _ _ _ _ _ (HR.c hR hi2) v11 (ln i) ft11 hS11 hn11) dX4_isOutsideInOrder_60 rfl mC_X1_hasLabel mM_X4_130 mI_X1_hasLabel mV_X1_hasLabel mN_X1 yd_X1_hasLabel rfl rfl ⟨Nat.le_of_ble_eq_true rfl, Nat.le_of_ble_eq_true rfl⟩ (HR.c hR hi2) rfl rfl rfl rfl (Nat.le_of_ble_eq_true rfl) ⟨Nat.le_of_ble_eq_true rfl, Nat.le_of_ble_eq_true rfl⟩ (fun _ _ _ q => False.elim q) (fun r w1 sz1 hz hP => ?_)
              obtain ⟨rfl, rfl, rfl⟩ := hP
              refine x_st (st1 := [.int (bi1 (ln i))]) rfl ?_
              refine x_if_ne 68 66 C0 dX4_isOutsideInOrder_63 rfl (by decide) (fun c12 => ?_) (fun c12 => ?_)
              · refine x_iinc [(3, .int (nI (i + 1))), (0, .ref h), (1, .ref (h + 2)), (2, .int 20), (4, .ref (h + 3 + i)), (5, .int 1)] 3 71 C0 dX4_isOutsideInOrder_68 rfl rfl (nI_1 i) (by decide) rfl ?_
                refine x_lv (lv1 := [(0, .ref h), (1, .ref (h + 2)), (2, .int 20), (3, .int (nI (i + 1))), (4, .ref (h + 3 + i)), (5, .int 1)]) [1, 2, 3, 0, 4, 5] rfl ?_
                refine x_goto 10 C0 dX4_isOutsideInOrder_71 (by decide) ?_
                have e9 : ¬ outBad x ln i := by simp_all [outBad, bi1]
                have q9 := ih (i + 1) (by omega) (by omega) (fun j hj => by
                    by_cases h8 : j = i
                    · rw [h8]; exact e9
                    · exact hB j (by omega))
                exact x_lv [0, 1, 2, 3] rfl q9
              · refine x_iconst (v := 0) 67 C0 dX4_isOutsideInOrder_66 rfl (by decide) ?_
                exact x_ireturn C0 dX4_isOutsideInOrder_67 rfl rfl (Nat.le_of_ble_eq_true rfl) (Nat.le_of_ble_eq_true rfl) ⟨Or.inr ⟨rfl, i, hi2, by simp_all [outBad, bi1]⟩, rfl, rfl⟩
  exact loop10 21 0 (by omega) (by omega) (fun j hj => absurd hj (by omega))

