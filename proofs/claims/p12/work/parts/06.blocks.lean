/-! THE BLOCKS: a chest is one cell, a house 23 cells from h on: itself, its store, its row of chests, its 20 chests. x: the numbers of a house by the reference's places (0 to 9 the counts, 10 to 27 the store, 28 + 9 k the chests), 208 and 209 the reason and the detail; la: where the labels lie -/
theorem xA_le {g : xg_T} {a b : Nat} (h : xA g a) (hab : a ≤ b) : xA g b := Nat.le_trans h hab
def chestE (num : Int32) (f : Nat → Int32) (la : Nat) : List Value := [.int num, .int (f 0), .int (f 1), .int (f 2), .int (f 3), .int (f 4), .int (f 5), .int (f 6), .int (f 7), .ref la]
theorem chestE_eq {n : Int32} {f f' : Nat → Int32} {a : Nat} (h : ∀ j, j < 8 → f j = f' j) : chestE n f a = chestE n f' a := by
  unfold chestE
  rw [h 0 (by omega), h 1 (by omega), h 2 (by omega), h 3 (by omega), h 4 (by omega), h 5 (by omega), h 6 (by omega), h 7 (by omega)]
def row (x : Nat → Int32) (k : Nat) : Nat → Int32 := fun j => x (28 + 9 * k + j)
def setRow (x : Nat → Int32) (k : Nat) (f : Nat → Int32) : Nat → Int32 := fun q => if 28 + 9 * k ≤ q ∧ q < 28 + 9 * k + 8 then f (q - (28 + 9 * k)) else x q
def chestL (k : Nat) (x : Nat → Int32) (la : Nat → Nat) : List Value := chestE (nI k) (row x k) (la k)
def houseL (h : Nat) (x : Nat → Int32) : List Value := [.ref (h + 1), .ref (h + 2), .int (x 3), .int (x 1), .int (x 2), .int (x 0), .int (x 5), .int (x 4), .int (x 9), .int (x 6), .int (x 7), .int (x 8), .int (x 208), .int (x 209)]
def mk (n o : Nat) (x : Nat → Int32) : Nat → Int32 := fun j => if j < n then x (o + j) else 0
theorem mk_at {n o j : Nat} {x : Nat → Int32} (h : j < n) : mk n o x j = x (o + j) := if_pos h
theorem mk_upd {n o j : Nat} {x : Nat → Int32} {v : Int32} (h : j < n) : upd (mk n o x) j v = mk n o (upd x (o + j) v) := by
  funext q
  unfold mk upd
  by_cases hq : q = j
  · subst hq
    simp [h]
  · by_cases h2 : q < n
    · simp [h2, hq, show ¬ o + q = o + j by omega]
    · simp [h2, hq]
theorem mk_out {n o i : Nat} {x : Nat → Int32} {v : Int32} (h : i < o ∨ o + n ≤ i) : mk n o (upd x i v) = mk n o x := by
  funext q
  unfold mk upd
  by_cases h2 : q < n
  · simp [h2, show ¬ o + q = i by omega]
  · simp [h2]
theorem mk_eq {n o : Nat} {x y : Nat → Int32} (h : ∀ j, j < n → x (o + j) = y (o + j)) : mk n o x = mk n o y := by
  funext q
  unfold mk
  by_cases h2 : q < n
  · simp [h2, h q h2]
  · simp [h2]
def HWf (g : xg_T) (h : Nat) (x : Nat → Int32) (la : Nat → Nat) (q : Nat) : Option va_E :=
  if q = h then some (.inr (6, houseL h x)) else if q = h + 1 then some (.inl (g.2 1, 18, .inl (mk 18 10 x))) else if q = h + 2 then some (.inl (g.2 6, 20, .inr (.inr (.inr (.inr (fun j => if j < 20 then some (h + 3 + j) else none)))))) else some (.inr (3, chestL (q - (h + 3)) x la))
def HW (g : xg_T) (w : xw_T) (h : Nat) (x : Nat → Int32) (la : Nat → Nat) : xw_T := fun q => if h ≤ q ∧ q < h + 23 then HWf g h x la q else w q
def HR (g : xg_T) (w : xw_T) (h : Nat) (x : Nat → Int32) (la : Nat → Nat) : Prop := ∀ q, h ≤ q → q < h + 23 → w q = HWf g h x la q
theorem houseS2 (h : Nat) (x : Nat → Int32) (v : Int32) : (houseL h x).set 2 (.int v) = houseL h (upd x 3 v) := rfl
theorem houseS3 (h : Nat) (x : Nat → Int32) (v : Int32) : (houseL h x).set 3 (.int v) = houseL h (upd x 1 v) := rfl
theorem houseS4 (h : Nat) (x : Nat → Int32) (v : Int32) : (houseL h x).set 4 (.int v) = houseL h (upd x 2 v) := rfl
theorem houseS5 (h : Nat) (x : Nat → Int32) (v : Int32) : (houseL h x).set 5 (.int v) = houseL h (upd x 0 v) := rfl
theorem houseS6 (h : Nat) (x : Nat → Int32) (v : Int32) : (houseL h x).set 6 (.int v) = houseL h (upd x 5 v) := rfl
theorem houseS7 (h : Nat) (x : Nat → Int32) (v : Int32) : (houseL h x).set 7 (.int v) = houseL h (upd x 4 v) := rfl
theorem houseS8 (h : Nat) (x : Nat → Int32) (v : Int32) : (houseL h x).set 8 (.int v) = houseL h (upd x 9 v) := rfl
theorem houseS9 (h : Nat) (x : Nat → Int32) (v : Int32) : (houseL h x).set 9 (.int v) = houseL h (upd x 6 v) := rfl
theorem houseS10 (h : Nat) (x : Nat → Int32) (v : Int32) : (houseL h x).set 10 (.int v) = houseL h (upd x 7 v) := rfl
theorem houseS11 (h : Nat) (x : Nat → Int32) (v : Int32) : (houseL h x).set 11 (.int v) = houseL h (upd x 8 v) := rfl
theorem houseS12 (h : Nat) (x : Nat → Int32) (v : Int32) : (houseL h x).set 12 (.int v) = houseL h (upd x 208 v) := rfl
theorem houseS13 (h : Nat) (x : Nat → Int32) (v : Int32) : (houseL h x).set 13 (.int v) = houseL h (upd x 209 v) := rfl
theorem chestS0 (k : Nat) (x : Nat → Int32) (la : Nat → Nat) (v : Int32) : (.inr (3, (chestL k x la).set 1 (.int v)) : va_E) = .inr (3, chestE (nI k) (upd (row x k) 0 v) (la k)) := rfl
theorem chestS1 (k : Nat) (x : Nat → Int32) (la : Nat → Nat) (v : Int32) : (.inr (3, (chestL k x la).set 2 (.int v)) : va_E) = .inr (3, chestE (nI k) (upd (row x k) 1 v) (la k)) := rfl
theorem chestS2 (k : Nat) (x : Nat → Int32) (la : Nat → Nat) (v : Int32) : (.inr (3, (chestL k x la).set 3 (.int v)) : va_E) = .inr (3, chestE (nI k) (upd (row x k) 2 v) (la k)) := rfl
theorem chestS3 (k : Nat) (x : Nat → Int32) (la : Nat → Nat) (v : Int32) : (.inr (3, (chestL k x la).set 4 (.int v)) : va_E) = .inr (3, chestE (nI k) (upd (row x k) 3 v) (la k)) := rfl
theorem chestS4 (k : Nat) (x : Nat → Int32) (la : Nat → Nat) (v : Int32) : (.inr (3, (chestL k x la).set 5 (.int v)) : va_E) = .inr (3, chestE (nI k) (upd (row x k) 4 v) (la k)) := rfl
theorem chestS5 (k : Nat) (x : Nat → Int32) (la : Nat → Nat) (v : Int32) : (.inr (3, (chestL k x la).set 6 (.int v)) : va_E) = .inr (3, chestE (nI k) (upd (row x k) 5 v) (la k)) := rfl
theorem chestS6 (k : Nat) (x : Nat → Int32) (la : Nat → Nat) (v : Int32) : (.inr (3, (chestL k x la).set 7 (.int v)) : va_E) = .inr (3, chestE (nI k) (upd (row x k) 6 v) (la k)) := rfl
theorem chestS7 (k : Nat) (x : Nat → Int32) (la : Nat → Nat) (v : Int32) : (.inr (3, (chestL k x la).set 8 (.int v)) : va_E) = .inr (3, chestE (nI k) (upd (row x k) 7 v) (la k)) := rfl
section HB
variable {g : xg_T} {w : xw_T} {h : Nat} {x x' : Nat → Int32} {la la' : Nat → Nat}
theorem HR.ho (hR : HR g w h x la) : w h = some (.inr (6, houseL h x)) := (hR h (Nat.le_refl _) (by omega)).trans (if_pos rfl)
theorem HR.st (hR : HR g w h x la) : w (h + 1) = some (.inl (g.2 1, 18, .inl (mk 18 10 x))) := (hR (h + 1) (by omega) (by omega)).trans (by unfold HWf; rw [if_neg (by omega), if_pos rfl])
theorem HR.cs (hR : HR g w h x la) : w (h + 2) = some (.inl (g.2 6, 20, .inr (.inr (.inr (.inr (fun j => if j < 20 then some (h + 3 + j) else none)))))) := (hR (h + 2) (by omega) (by omega)).trans (by unfold HWf; rw [if_neg (by omega), if_neg (by omega), if_pos rfl])
theorem HR.c (hR : HR g w h x la) {k : Nat} (hk : k < 20) : w (h + 3 + k) = some (.inr (3, chestL k x la)) := (hR (h + 3 + k) (by omega) (by omega)).trans (by unfold HWf; rw [if_neg (by omega), if_neg (by omega), if_neg (by omega), show h + 3 + k - (h + 3) = k by omega])
theorem HW_self (hR : HR g w h x la) : w = HW g w h x la := by
  funext q
  unfold HW
  by_cases hq : h ≤ q ∧ q < h + 23
  · rw [if_pos hq]; exact hR q hq.1 hq.2
  · rw [if_neg hq]
theorem HR_HW : HR g (HW g w h x la) h x la := fun q h1 h2 => if_pos ⟨h1, h2⟩
theorem HW_HW : HW g (HW g w h x la) h x' la' = HW g w h x' la' := by
  funext q
  unfold HW
  by_cases hq : h ≤ q ∧ q < h + 23
  · rw [if_pos hq, if_pos hq]
  · rw [if_neg hq, if_neg hq, if_neg hq]
theorem HW_ne {q : Nat} (hq : q < h ∨ h + 23 ≤ q) : HW g w h x la q = w q := if_neg (by omega)
theorem HR_far {h2 : Nat} {x2 : Nat → Int32} {la2 : Nat → Nat} (hd : h2 + 23 ≤ h ∨ h + 23 ≤ h2) (hR : HR g w h2 x2 la2) : HR g (HW g w h x la) h2 x2 la2 := fun q h1 h2' => (HW_ne (by omega)).trans (hR q h1 h2')
theorem HWf_c {q k : Nat} (hq : q = h + 3 + k) : HWf g h x la q = some (.inr (3, chestL k x la)) := by
  unfold HWf
  rw [if_neg (by omega), if_neg (by omega), if_neg (by omega), show q - (h + 3) = k by omega]
theorem chestL_out {k i : Nat} {v : Int32} (hi : i < 28 + 9 * k ∨ 28 + 9 * k + 8 ≤ i) : chestL k (upd x i v) la = chestL k x la := by
  unfold chestL
  exact chestE_eq (fun j hj => if_neg (by omega))
/-- a count of the house -/
theorem HW_putH {i kf : Nat} {v : Int32} (hi : i < 10 ∨ 208 ≤ i) (hl : (houseL h x).set kf (.int v) = houseL h (upd x i v)) : xup (HW g w h x la) h (.inr (6, (houseL h x).set kf (.int v))) = HW g w h (upd x i v) la := by
  rw [hl]
  funext q
  unfold xup HW
  by_cases hq : q = h
  · subst hq
    simp [HWf]
  · rw [if_neg hq]
    by_cases hr : h ≤ q ∧ q < h + 23
    · rw [if_pos hr, if_pos hr]
      unfold HWf
      rw [if_neg hq, if_neg hq, mk_out (by omega)]
      by_cases h1 : q = h + 1
      · rw [if_pos h1, if_pos h1]
      · rw [if_neg h1, if_neg h1]
        by_cases h2 : q = h + 2
        · rw [if_pos h2, if_pos h2]
        · rw [if_neg h2, if_neg h2, chestL_out (by omega)]
    · rw [if_neg hr, if_neg hr]
/-- a place of the store -/
theorem HW_putS {j : Nat} {v : Int32} (hj : j < 18) : xup (HW g w h x la) (h + 1) (.inl (g.2 1, 18, .inl (upd (mk 18 10 x) j v))) = HW g w h (upd x (10 + j) v) la := by
  rw [mk_upd hj]
  funext q
  unfold xup HW
  by_cases hq : q = h + 1
  · subst hq
    simp [HWf]
  · rw [if_neg hq]
    by_cases hr : h ≤ q ∧ q < h + 23
    · rw [if_pos hr, if_pos hr]
      unfold HWf
      by_cases h1 : q = h
      · rw [if_pos h1, if_pos h1]
        simp [houseL, upd, show ¬ (3 = 10 + j) by omega, show ¬ (1 = 10 + j) by omega, show ¬ (2 = 10 + j) by omega, show ¬ (0 = 10 + j) by omega, show ¬ (5 = 10 + j) by omega, show ¬ (4 = 10 + j) by omega, show ¬ (9 = 10 + j) by omega, show ¬ (6 = 10 + j) by omega, show ¬ (7 = 10 + j) by omega, show ¬ (8 = 10 + j) by omega, show ¬ (208 = 10 + j) by omega, show ¬ (209 = 10 + j) by omega]
      · rw [if_neg h1, if_neg h1, if_neg hq, if_neg hq]
        by_cases h2 : q = h + 2
        · rw [if_pos h2, if_pos h2]
        · rw [if_neg h2, if_neg h2, chestL_out (by omega)]
    · rw [if_neg hr, if_neg hr]
/-- a chest: its numbers and its label -/
theorem HW_putC {k a' : Nat} {f' : Nat → Int32} {e' : va_E} (hk : k < 20) (he : e' = .inr (3, chestE (nI k) f' a')) (hf : ∀ j, j < 8 → x' (28 + 9 * k + j) = f' j) (ho : ∀ i, (i < 28 + 9 * k ∨ 28 + 9 * k + 8 ≤ i) → x' i = x i) (hl : la' k = a') (hlo : ∀ k2, k2 ≠ k → la' k2 = la k2) : xup (HW g w h x la) (h + 3 + k) e' = HW g w h x' la' := by
  subst he
  funext q
  unfold xup HW
  by_cases hq : q = h + 3 + k
  · rw [if_pos hq, if_pos (by omega), HWf_c hq]
    unfold chestL chestE row
    rw [hf 0 (by omega), hf 1 (by omega), hf 2 (by omega), hf 3 (by omega), hf 4 (by omega), hf 5 (by omega), hf 6 (by omega), hf 7 (by omega), hl]
  · rw [if_neg hq]
    by_cases hr : h ≤ q ∧ q < h + 23
    · rw [if_pos hr, if_pos hr]
      unfold HWf
      by_cases h1 : q = h
      · rw [if_pos h1, if_pos h1]
        unfold houseL
        rw [ho 3 (by omega), ho 1 (by omega), ho 2 (by omega), ho 0 (by omega), ho 5 (by omega), ho 4 (by omega), ho 9 (by omega), ho 6 (by omega), ho 7 (by omega), ho 8 (by omega), ho 208 (by omega), ho 209 (by omega)]
      · rw [if_neg h1, if_neg h1]
        by_cases h2 : q = h + 1
        · rw [if_pos h2, if_pos h2, mk_eq (y := x') (fun j hj => (ho _ (by omega)).symm)]
        · rw [if_neg h2, if_neg h2]
          by_cases h3 : q = h + 2
          · rw [if_pos h3, if_pos h3]
          · rw [if_neg h3, if_neg h3]
            have hne : q - (h + 3) ≠ k := by omega
            generalize hk2 : q - (h + 3) = k2 at hne
            unfold chestL chestE row
            rw [hlo k2 hne, ho (28 + 9 * k2 + 0) (by omega), ho (28 + 9 * k2 + 1) (by omega), ho (28 + 9 * k2 + 2) (by omega), ho (28 + 9 * k2 + 3) (by omega), ho (28 + 9 * k2 + 4) (by omega), ho (28 + 9 * k2 + 5) (by omega), ho (28 + 9 * k2 + 6) (by omega), ho (28 + 9 * k2 + 7) (by omega)]
    · rw [if_neg hr, if_neg hr]
/-- the same, over its chest's row as a function -/
theorem HW_putC1 {k j : Nat} {v : Int32} {e' : va_E} (hk : k < 20) (hj : j < 8) (he : e' = .inr (3, chestE (nI k) (upd (row x k) j v) (la k))) : xup (HW g w h x la) (h + 3 + k) e' = HW g w h (upd x (28 + 9 * k + j) v) la :=
  HW_putC hk he (fun i hi => by
    unfold upd row
    by_cases h1 : i = j
    · subst h1; simp
    · rw [if_neg (by omega), if_neg h1]) (fun i hi => if_neg (by omega)) rfl (fun _ _ => rfl)
/-- all of a chest's numbers at once, the label kept, or a new one -/
theorem HW_putRow {k : Nat} {f : Nat → Int32} (hk : k < 20) : xup (HW g w h x la) (h + 3 + k) (.inr (3, chestE (nI k) f (la k))) = HW g w h (setRow x k f) la :=
  HW_putC hk rfl (fun i hi => by
    unfold setRow
    rw [if_pos (by omega), show 28 + 9 * k + i - (28 + 9 * k) = i by omega]) (fun i hi => if_neg (by omega)) rfl (fun _ _ => rfl)
theorem HW_putRowL {k a' : Nat} {f : Nat → Int32} (hk : k < 20) : xup (HW g w h x la) (h + 3 + k) (.inr (3, chestE (nI k) f a')) = HW g w h (setRow x k f) (va_up la k a') :=
  HW_putC hk rfl (fun i hi => by
    unfold setRow
    rw [if_pos (by omega), show 28 + 9 * k + i - (28 + 9 * k) = i by omega]) (fun i hi => if_neg (by omega)) (va_up_self _ _ _) (fun k2 h2 => va_up_ne _ _ h2)
end HB
