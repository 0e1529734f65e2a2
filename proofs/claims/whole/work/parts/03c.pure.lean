/-! what later messages leave as it was -/
theorem bnF_congr {f f' : Nat → Nat} {c : Nat} : ∀ m, (∀ j, j < m → f j = f' j) → bnF f c m = bnF f' c m
  | 0, _ => rfl
  | m + 1, h => by
    unfold bnF
    rw [bnF_congr m (fun j hj => h j (by omega)), en_congr m (fun j hj => h j (by omega))]
theorem bnF_more {f : Nat → Nat} {c m : Nat} (h : c ≤ en f m) : ∀ i, bnF f c (m + i) = bnF f c m
  | 0 => rfl
  | i + 1 => by
    have h2 : ¬ en f (m + i) < c := Nat.not_lt.mpr (Nat.le_trans h (en_mono f (by omega)))
    show (if bnF f c (m + i) = m + i ∧ en f (m + i) < c then m + i + 1 else bnF f c (m + i)) = _
    rw [if_neg (fun q => h2 q.2), bnF_more h i]
theorem bnF_grow {f f' : Nat → Nat} {c m m' : Nat} (hm : m ≤ m') (hf : ∀ j, j < m → f' j = f j) (h : c ≤ en f m) : bnF f' c m' = bnF f c m := by
  have e1 : en f' m = en f m := en_congr m hf
  obtain ⟨i, rfl⟩ := Nat.exists_eq_add_of_le hm
  rw [bnF_more (by rw [e1]; exact h), bnF_congr m hf]
/-- the next end behind c ends -/
theorem next_end {f : Nat → Nat} {c m : Nat} (h : c < en f m) : ∃ e, bnF f c m ≤ e ∧ e < m ∧ f e = END ∧ (∀ j, bnF f c m ≤ j → j < e → f j ≠ END) ∧ bnF f (c + 1) m = e + 1 := by
  have hb := en_bnF (f := f) (c := c + 1) (m := m) h
  have hle := bnF_le f (c + 1) m
  have h0 : 0 < bnF f (c + 1) m := by
    rcases Nat.eq_zero_or_pos (bnF f (c + 1) m) with z | z
    · rw [z] at hb
      have : en f 0 = 0 := rfl
      omega
    · exact z
  have hlt := bnF_lt f (c + 1) m (bnF f (c + 1) m - 1) (by omega)
  have h2 : en f (bnF f (c + 1) m) = en f (bnF f (c + 1) m - 1) + (if f (bnF f (c + 1) m - 1) = END then 1 else 0) := by
    rw [show bnF f (c + 1) m = (bnF f (c + 1) m - 1) + 1 by omega]; rfl
  have hend : f (bnF f (c + 1) m - 1) = END := by
    apply Classical.byContradiction
    intro q
    rw [if_neg q] at h2
    omega
  rw [if_pos hend] at h2
  have hc : en f (bnF f (c + 1) m - 1) = c := by omega
  have hbc : bnF f c m ≤ bnF f (c + 1) m - 1 := by
    apply Nat.not_lt.mp
    intro q
    have := bnF_lt f c m _ q
    omega
  refine ⟨bnF f (c + 1) m - 1, hbc, by omega, hend, fun j h3 h4 h5 => ?_, by omega⟩
  have e1 : en f (bnF f c m) = c := en_bnF (by omega)
  have e2 : en f (j + 1) = en f j + 1 := by show en f j + _ = _; rw [if_pos h5]
  have e3 := en_mono f h3
  have e4 : en f (j + 1) ≤ en f (bnF f (c + 1) m - 1) := en_mono f (by omega)
  omega
theorem con_grow {f f' : Nat → Nat} {k c m m' : Nat} (hm : m ≤ m') (hf : ∀ j, j < m → f' j = f j) (h : c < en f m) : conF f' k (bnF f' c m') (m' - bnF f' c m') (nI 0) = conF f k (bnF f c m) (m - bnF f c m) (nI 0) := by
  rw [bnF_grow hm hf (Nat.le_of_lt h)]
  obtain ⟨e, h1, h2, h3, h4, -⟩ := next_end h
  have s1 := conF_stop (f := f) (k := k) (e - bnF f c m) (bnF f c m) (m - bnF f c m) (nI 0) (fun j hj => h4 _ (by omega) (by omega)) (by rw [show bnF f c m + (e - bnF f c m) = e by omega]; exact h3) (by omega)
  have s2 := conF_stop (f := f') (k := k) (e - bnF f c m) (bnF f c m) (m' - bnF f c m) (nI 0) (fun j hj => by rw [hf _ (by omega)]; exact h4 _ (by omega) (by omega)) (by rw [show bnF f c m + (e - bnF f c m) = e by omega, hf _ h2]; exact h3) (by omega)
  rw [s1, s2]
  exact conF_congr _ _ _ (fun j h5 h6 => hf j (by omega))
/-- a link's messages have only grown -/
def Grw (a a' : Ab) (l : Nat) : Prop := a 1 l 0 ≤ a' 1 l 0 ∧ ∀ j, j < a 1 l 0 → a' 4 l j = a 4 l j
theorem Grw.rf (a : Ab) (l : Nat) : Grw a a l := ⟨Nat.le_refl _, fun _ _ => rfl⟩
theorem bnd_grow {a a' : Ab} {l c : Nat} (hg : Grw a a' l) (h : c ≤ en (a 4 l) (a 1 l 0)) : bnd a' l c = bnd a l c := bnF_grow hg.1 hg.2 h
theorem con_eq {a a' : Ab} {k c v : Nat} (hg : Grw a a' (3 * v + k % 3)) (h : c < en (a 4 (3 * v + k % 3)) (a 1 (3 * v + k % 3) 0)) : con a' k c v = con a k c v := con_grow hg.1 hg.2 h
theorem wko_eq {ru w : Nat} {a a' : Ab} {k c : Nat} (hg : ∀ v, v < w → Grw a a' (3 * v + k % 3)) (h : ∀ v, v < w → c ≤ en (a 4 (3 * v + k % 3)) (a 1 (3 * v + k % 3) 0)) : wko ru w a' k c = wko ru w a k c :=
  wo_congr c (fun j hj => gF_congr w (fun v hv => con_eq (hg v hv) (Nat.lt_of_lt_of_le hj (h v hv))))
theorem don_le {w h v : Nat} (a : Ab) (hv : v < w) : don w a h ≤ en (a 4 (3 * v + h)) (trn a (3 * v + h)) := minF_at _ _ w v hv
theorem don_ends {w h v : Nat} (a : Ab) (hv : v < w) : don w a h ≤ en (a 4 (3 * v + h)) (a 1 (3 * v + h) 0) := Nat.le_trans (don_le a hv) (en_mono _ (tnF_le _ _))
theorem trn_le (a : Ab) (l : Nat) : trn a l ≤ a 1 l 0 := tnF_le _ _
