/-! Laws of the pure functions -/
theorem ua_at (a : Ab) (t i j v : Nat) : ua a t i j v t i j = v := by simp [ua]
theorem ua_ne {a : Ab} {t i j v t' i' j' : Nat} (h : ¬ (t' = t ∧ i' = i ∧ j' = j)) : ua a t i j v t' i' j' = a t' i' j' := by simp [ua, h]
theorem tnF_le (f : Nat → Nat) : ∀ m, tnF f m ≤ m
  | 0 => Nat.le_refl _
  | m + 1 => by
    have h := tnF_le f m
    unfold tnF
    split <;> omega
theorem tnF_lt (f : Nat → Nat) : ∀ m n, n < tnF f m → f n = 1
  | 0, n, h => absurd h (Nat.not_lt_zero n)
  | m + 1, n, h => by
    unfold tnF at h
    split at h
    next hc =>
      by_cases hn : n = m
      · rw [hn]; exact hc.2
      · exact tnF_lt f m n (by omega)
    next => exact tnF_lt f m n h
theorem tnF_stop (f : Nat → Nat) : ∀ m, tnF f m < m → f (tnF f m) ≠ 1
  | 0, h => absurd h (Nat.not_lt_zero _)
  | m + 1, h => by
    have hl := tnF_le f m
    unfold tnF at h ⊢
    split at h
    next hc => omega
    next hc =>
      rw [if_neg hc]
      by_cases hm : tnF f m = m
      · intro h1
        rw [hm] at h1
        exact hc ⟨hm, h1⟩
      · exact tnF_stop f m (by omega)
theorem tnF_eq {f : Nat → Nat} {m t : Nat} (h1 : t ≤ m) (h2 : ∀ n, n < t → f n = 1) (h3 : t < m → f t ≠ 1) : tnF f m = t := by
  have a1 := tnF_le f m
  rcases Nat.lt_trichotomy (tnF f m) t with h | h | h
  · exact absurd (h2 _ h) (tnF_stop f m (by omega))
  · exact h
  · exact absurd (tnF_lt f m t h) (h3 (by omega))
theorem en_le (f : Nat → Nat) : ∀ n, en f n ≤ n
  | 0 => Nat.le_refl _
  | n + 1 => by
    have h := en_le f n
    unfold en
    split <;> omega
theorem en_mono (f : Nat → Nat) {n m : Nat} (h : n ≤ m) : en f n ≤ en f m := by
  induction h with
  | refl => exact Nat.le_refl _
  | step h ih => exact Nat.le_trans ih (by show en f _ ≤ en f _ + _; omega)
theorem en_congr {f f' : Nat → Nat} : ∀ n, (∀ j, j < n → f j = f' j) → en f n = en f' n
  | 0, _ => rfl
  | n + 1, h => by
    unfold en
    rw [en_congr n (fun j hj => h j (by omega)), h n (by omega)]
theorem bnF_le (f : Nat → Nat) (c : Nat) : ∀ m, bnF f c m ≤ m
  | 0 => Nat.le_refl _
  | m + 1 => by
    have h := bnF_le f c m
    unfold bnF
    split <;> omega
theorem bnF_lt (f : Nat → Nat) (c : Nat) : ∀ m n, n < bnF f c m → en f n < c
  | 0, n, h => absurd h (Nat.not_lt_zero n)
  | m + 1, n, h => by
    unfold bnF at h
    split at h
    next hc =>
      by_cases hn : n = m
      · rw [hn]; exact hc.2
      · exact bnF_lt f c m n (by omega)
    next => exact bnF_lt f c m n h
theorem bnF_stop (f : Nat → Nat) (c : Nat) : ∀ m, bnF f c m < m → c ≤ en f (bnF f c m)
  | 0, h => absurd h (Nat.not_lt_zero _)
  | m + 1, h => by
    have hl := bnF_le f c m
    unfold bnF at h ⊢
    split at h
    next hc => omega
    next hc =>
      rw [if_neg hc]
      by_cases hm : bnF f c m = m
      · rw [hm]
        exact Nat.not_lt.mp (fun h1 => hc ⟨hm, h1⟩)
      · exact bnF_stop f c m (by omega)
theorem bnF_eq {f : Nat → Nat} {c m b : Nat} (h1 : b ≤ m) (h2 : ∀ n, n < b → en f n < c) (h3 : b < m → c ≤ en f b) : bnF f c m = b := by
  have a1 := bnF_le f c m
  rcases Nat.lt_trichotomy (bnF f c m) b with h | h | h
  · exact absurd (h2 _ h) (Nat.not_lt.mpr (bnF_stop f c m (by omega)))
  · exact h
  · exact absurd (bnF_lt f c m b h) (Nat.not_lt.mpr (h3 (by omega)))
theorem en_bnF {f : Nat → Nat} {c m : Nat} (h : c ≤ en f m) : en f (bnF f c m) = c := by
  have hge : c ≤ en f (bnF f c m) := by
    rcases Nat.lt_or_ge (bnF f c m) m with z | z
    · exact bnF_stop f c m z
    · have := bnF_le f c m
      rw [show bnF f c m = m by omega]; exact h
  rcases Nat.eq_zero_or_pos (bnF f c m) with z | z
  · rw [z] at hge ⊢
    have : en f 0 = 0 := rfl
    omega
  · have h1 := bnF_lt f c m (bnF f c m - 1) (by omega)
    have h2 : en f (bnF f c m) = en f (bnF f c m - 1) + (if f (bnF f c m - 1) = END then 1 else 0) := by
      rw [show bnF f c m = (bnF f c m - 1) + 1 by omega]; rfl
    rw [h2] at hge ⊢
    split at hge <;> split <;> omega
theorem minF_le (F : Nat → Nat) (z : Nat) : ∀ w, minF F z w ≤ z
  | 0 => Nat.le_refl _
  | w + 1 => Nat.le_trans (Nat.min_le_left _ _) (minF_le F z w)
theorem minF_at (F : Nat → Nat) (z : Nat) : ∀ w v, v < w → minF F z w ≤ F v
  | 0, v, h => absurd h (Nat.not_lt_zero v)
  | w + 1, v, h => by
    by_cases hv : v = w
    · rw [hv]; exact Nat.min_le_right _ _
    · exact Nat.le_trans (Nat.min_le_left _ _) (minF_at F z w v (by omega))
theorem minF_ge (F : Nat → Nat) (z b : Nat) (hz : b ≤ z) : ∀ w, (∀ v, v < w → b ≤ F v) → b ≤ minF F z w
  | 0, _ => hz
  | w + 1, h => Nat.le_min.mpr ⟨minF_ge F z b hz w (fun v hv => h v (by omega)), h w (by omega)⟩
theorem minF_congr {F F' : Nat → Nat} {z : Nat} : ∀ w, (∀ v, v < w → F v = F' v) → minF F z w = minF F' z w
  | 0, _ => rfl
  | w + 1, h => by unfold minF; rw [minF_congr w (fun v hv => h v (by omega)), h w (by omega)]
theorem conF_congr {f f' : Nat → Nat} {k : Nat} : ∀ (i n : Nat) (s : Int32), (∀ j, n ≤ j → j < n + i → f j = f' j) → conF f k n i s = conF f' k n i s
  | 0, _, _, _ => rfl
  | i + 1, n, s, h => by
    unfold conF
    rw [h n (Nat.le_refl _) (by omega)]
    split
    · rfl
    · exact conF_congr i (n + 1) _ (fun j h1 h2 => h j (by omega) (by omega))
theorem conF_stop {f : Nat → Nat} {k : Nat} : ∀ (i n p : Nat) (s : Int32), (∀ j, j < i → f (n + j) ≠ END) → f (n + i) = END → i < p → conF f k n p s = conF f k n i s
  | 0, n, p + 1, s, _, h2, _ => by
    have h2 : f n = END := h2
    unfold conF
    rw [if_pos h2]
  | i + 1, n, p + 1, s, h1, h2, h3 => by
    have h0 : f n ≠ END := h1 0 (by omega)
    unfold conF
    rw [if_neg h0, if_neg h0]
    exact conF_stop i (n + 1) p _ (fun j hj => by rw [show n + 1 + j = n + (j + 1) by omega]; exact h1 (j + 1) (by omega)) (by rw [show n + 1 + i = n + (i + 1) by omega]; exact h2) (by omega)
theorem gF_congr {G G' : Nat → Int32} : ∀ w, (∀ v, v < w → G v = G' v) → gF G w = gF G' w
  | 0, _ => rfl
  | w + 1, h => by unfold gF; rw [gF_congr w (fun v hv => h v (by omega)), h w (by omega)]
theorem wo_congr {ru : Nat} {G G' : Nat → Int32} : ∀ c, (∀ j, j < c → G j = G' j) → wo ru G c = wo ru G' c
  | 0, _ => rfl
  | c + 1, h => by unfold wo; rw [wo_congr c (fun j hj => h j (by omega)), h c (by omega)]
theorem isq_sq : ∀ n, isq n * isq n ≤ n ∧ n < (isq n + 1) * (isq n + 1)
  | 0 => by decide
  | n + 1 => by
    obtain ⟨h1, h2⟩ := isq_sq n
    unfold isq
    split
    next h =>
      refine ⟨h, ?_⟩
      have : (isq n + 1) * (isq n + 1) + 2 * (isq n + 1) + 1 = (isq n + 1 + 1) * (isq n + 1 + 1) := by
        generalize isq n + 1 = r
        rw [Nat.add_mul, Nat.mul_add]
        omega
      omega
    next h => exact ⟨by omega, by omega⟩
theorem isq_eq {n r : Nat} (h1 : r * r ≤ n) (h2 : n < (r + 1) * (r + 1)) : isq n = r := by
  obtain ⟨a1, a2⟩ := isq_sq n
  rcases Nat.lt_trichotomy (isq n) r with h | h | h
  · have := Nat.mul_le_mul (show isq n + 1 ≤ r from h) (show isq n + 1 ≤ r from h)
    omega
  · exact h
  · have := Nat.mul_le_mul (show r + 1 ≤ isq n from h) (show r + 1 ≤ isq n from h)
    omega
