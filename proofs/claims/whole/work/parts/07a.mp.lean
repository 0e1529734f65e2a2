/-! the reference's picture: one number changed -/
theorem MP_0 {w sl ru : Nat} {s : Sp} {σ : Sg} {i v : Nat} (h : MP w sl ru s σ) : MP w sl ru (ua s.1 0 i 0 v, s.2) (up σ 17 0 (i) (nI v)) := by
  obtain ⟨⟨m0, m1, m2, m3, m4⟩, m17, m18, m21, m23, m24, m26, m27⟩ := h
  have hk : ∀ k, k ≠ 17 → up σ 17 0 (i) (nI v) k = σ k := fun k hk => up_k hk
  have ht : ∀ t, t ≠ 0 → ua s.1 0 i 0 v t = s.1 t := fun t ht => ua_t ht
  have hA : ∀ i', ua s.1 0 i 0 v 0 i' 0 = if i' = i then v else s.1 0 i' 0 := fun i' => by
    unfold ua
    by_cases q : i' = i
    · rw [if_pos ⟨rfl, q, rfl⟩, if_pos q]
    · rw [if_neg (fun z => q z.2.1), if_neg q]
  have hB : ∀ i', up σ 17 0 i (nI v) 17 0 i' = if i' = i then nI v else σ 17 0 i' := fun i' => by
    rw [up_eq]
    by_cases q : i' = i
    · rw [if_pos ⟨rfl, rfl, q⟩, if_pos q]
    · rw [if_neg (fun z => q z.2.2), if_neg q]
  generalize ua s.1 0 i 0 v = a' at *
  generalize up σ 17 0 (i) (nI v) = τ at *
  refine ⟨⟨by rw [hk 16 (by decide)]; exact m0, by rw [hk 16 (by decide)]; exact m1, by rw [hk 16 (by decide)]; exact m2, by rw [hk 16 (by decide)]; show _ = nI (a' 12 0 0); rw [ht 12 (by decide)]; exact m3, by rw [hk 16 (by decide)]; exact m4⟩, ?_, ?_, ?_, ?_, ?_, ?_, by rw [hk 27 (by decide), hk 28 (by decide), hk 29 (by decide)]; exact m27⟩
  · show ∀ v', v' < w → τ 17 0 v' = nI (a' 0 v' 0)
    intro i' h1
    rw [hB i', hA]
    have hb := m17 i' h1
    by_cases q : i' = i
    · rw [if_pos q, if_pos q]
    · rw [if_neg q, if_neg q]; exact hb
  · show ∀ l, l < 3 * w → τ 18 0 l = nI (a' 1 l 0) ∧ τ 19 0 l = nI (a' 2 l 0) ∧ τ 20 0 l = nI (a' 3 l 0)
    rw [hk 18 (by decide), ht 1 (by decide), hk 19 (by decide), ht 2 (by decide), hk 20 (by decide), ht 3 (by decide)]
    exact m18
  · show ∀ l n, l < 3 * w → n < 512 → τ 21 0 (512 * l + n) = nI (a' 4 l n) ∧ τ 22 0 (512 * l + n) = nI (a' 5 l n)
    rw [hk 21 (by decide), ht 4 (by decide), hk 22 (by decide), ht 5 (by decide)]
    exact m21
  · show ∀ l n, l < 3 * w → n < 32 → τ 23 0 (32 * l + n) = nI (a' 6 l n)
    rw [hk 23 (by decide), ht 6 (by decide)]
    exact m23
  · show ∀ h, h < 3 → τ 24 0 h = nI (a' 7 h 0) ∧ τ 25 0 h = nI (a' 8 h 0)
    rw [hk 24 (by decide), ht 7 (by decide), hk 25 (by decide), ht 8 (by decide)]
    exact m24
  · show ∀ c, c < 6 → τ 26 0 c = nI (a' 9 c 0)
    rw [hk 26 (by decide), ht 9 (by decide)]
    exact m26
theorem MP_1 {w sl ru : Nat} {s : Sp} {σ : Sg} {i v : Nat} (h : MP w sl ru s σ) : MP w sl ru (ua s.1 1 i 0 v, s.2) (up σ 18 0 (i) (nI v)) := by
  obtain ⟨⟨m0, m1, m2, m3, m4⟩, m17, m18, m21, m23, m24, m26, m27⟩ := h
  have hk : ∀ k, k ≠ 18 → up σ 18 0 (i) (nI v) k = σ k := fun k hk => up_k hk
  have ht : ∀ t, t ≠ 1 → ua s.1 1 i 0 v t = s.1 t := fun t ht => ua_t ht
  have hA : ∀ i', ua s.1 1 i 0 v 1 i' 0 = if i' = i then v else s.1 1 i' 0 := fun i' => by
    unfold ua
    by_cases q : i' = i
    · rw [if_pos ⟨rfl, q, rfl⟩, if_pos q]
    · rw [if_neg (fun z => q z.2.1), if_neg q]
  have hB : ∀ i', up σ 18 0 i (nI v) 18 0 i' = if i' = i then nI v else σ 18 0 i' := fun i' => by
    rw [up_eq]
    by_cases q : i' = i
    · rw [if_pos ⟨rfl, rfl, q⟩, if_pos q]
    · rw [if_neg (fun z => q z.2.2), if_neg q]
  generalize ua s.1 1 i 0 v = a' at *
  generalize up σ 18 0 (i) (nI v) = τ at *
  refine ⟨⟨by rw [hk 16 (by decide)]; exact m0, by rw [hk 16 (by decide)]; exact m1, by rw [hk 16 (by decide)]; exact m2, by rw [hk 16 (by decide)]; show _ = nI (a' 12 0 0); rw [ht 12 (by decide)]; exact m3, by rw [hk 16 (by decide)]; exact m4⟩, ?_, ?_, ?_, ?_, ?_, ?_, by rw [hk 27 (by decide), hk 28 (by decide), hk 29 (by decide)]; exact m27⟩
  · show ∀ v', v' < w → τ 17 0 v' = nI (a' 0 v' 0)
    rw [hk 17 (by decide), ht 0 (by decide)]
    exact m17
  · show ∀ l, l < 3 * w → τ 18 0 l = nI (a' 1 l 0) ∧ τ 19 0 l = nI (a' 2 l 0) ∧ τ 20 0 l = nI (a' 3 l 0)
    rw [hk 19 (by decide), ht 2 (by decide), hk 20 (by decide), ht 3 (by decide)]
    intro i' h1
    rw [hB i', hA]
    have hb := m18 i' h1
    by_cases q : i' = i
    · rw [if_pos q, if_pos q]; exact ⟨rfl, hb.2.1, hb.2.2⟩
    · rw [if_neg q, if_neg q]; exact hb
  · show ∀ l n, l < 3 * w → n < 512 → τ 21 0 (512 * l + n) = nI (a' 4 l n) ∧ τ 22 0 (512 * l + n) = nI (a' 5 l n)
    rw [hk 21 (by decide), ht 4 (by decide), hk 22 (by decide), ht 5 (by decide)]
    exact m21
  · show ∀ l n, l < 3 * w → n < 32 → τ 23 0 (32 * l + n) = nI (a' 6 l n)
    rw [hk 23 (by decide), ht 6 (by decide)]
    exact m23
  · show ∀ h, h < 3 → τ 24 0 h = nI (a' 7 h 0) ∧ τ 25 0 h = nI (a' 8 h 0)
    rw [hk 24 (by decide), ht 7 (by decide), hk 25 (by decide), ht 8 (by decide)]
    exact m24
  · show ∀ c, c < 6 → τ 26 0 c = nI (a' 9 c 0)
    rw [hk 26 (by decide), ht 9 (by decide)]
    exact m26
theorem MP_2 {w sl ru : Nat} {s : Sp} {σ : Sg} {i v : Nat} (h : MP w sl ru s σ) : MP w sl ru (ua s.1 2 i 0 v, s.2) (up σ 19 0 (i) (nI v)) := by
  obtain ⟨⟨m0, m1, m2, m3, m4⟩, m17, m18, m21, m23, m24, m26, m27⟩ := h
  have hk : ∀ k, k ≠ 19 → up σ 19 0 (i) (nI v) k = σ k := fun k hk => up_k hk
  have ht : ∀ t, t ≠ 2 → ua s.1 2 i 0 v t = s.1 t := fun t ht => ua_t ht
  have hA : ∀ i', ua s.1 2 i 0 v 2 i' 0 = if i' = i then v else s.1 2 i' 0 := fun i' => by
    unfold ua
    by_cases q : i' = i
    · rw [if_pos ⟨rfl, q, rfl⟩, if_pos q]
    · rw [if_neg (fun z => q z.2.1), if_neg q]
  have hB : ∀ i', up σ 19 0 i (nI v) 19 0 i' = if i' = i then nI v else σ 19 0 i' := fun i' => by
    rw [up_eq]
    by_cases q : i' = i
    · rw [if_pos ⟨rfl, rfl, q⟩, if_pos q]
    · rw [if_neg (fun z => q z.2.2), if_neg q]
  generalize ua s.1 2 i 0 v = a' at *
  generalize up σ 19 0 (i) (nI v) = τ at *
  refine ⟨⟨by rw [hk 16 (by decide)]; exact m0, by rw [hk 16 (by decide)]; exact m1, by rw [hk 16 (by decide)]; exact m2, by rw [hk 16 (by decide)]; show _ = nI (a' 12 0 0); rw [ht 12 (by decide)]; exact m3, by rw [hk 16 (by decide)]; exact m4⟩, ?_, ?_, ?_, ?_, ?_, ?_, by rw [hk 27 (by decide), hk 28 (by decide), hk 29 (by decide)]; exact m27⟩
  · show ∀ v', v' < w → τ 17 0 v' = nI (a' 0 v' 0)
    rw [hk 17 (by decide), ht 0 (by decide)]
    exact m17
  · show ∀ l, l < 3 * w → τ 18 0 l = nI (a' 1 l 0) ∧ τ 19 0 l = nI (a' 2 l 0) ∧ τ 20 0 l = nI (a' 3 l 0)
    rw [hk 18 (by decide), ht 1 (by decide), hk 20 (by decide), ht 3 (by decide)]
    intro i' h1
    rw [hB i', hA]
    have hb := m18 i' h1
    by_cases q : i' = i
    · rw [if_pos q, if_pos q]; exact ⟨hb.1, rfl, hb.2.2⟩
    · rw [if_neg q, if_neg q]; exact hb
  · show ∀ l n, l < 3 * w → n < 512 → τ 21 0 (512 * l + n) = nI (a' 4 l n) ∧ τ 22 0 (512 * l + n) = nI (a' 5 l n)
    rw [hk 21 (by decide), ht 4 (by decide), hk 22 (by decide), ht 5 (by decide)]
    exact m21
  · show ∀ l n, l < 3 * w → n < 32 → τ 23 0 (32 * l + n) = nI (a' 6 l n)
    rw [hk 23 (by decide), ht 6 (by decide)]
    exact m23
  · show ∀ h, h < 3 → τ 24 0 h = nI (a' 7 h 0) ∧ τ 25 0 h = nI (a' 8 h 0)
    rw [hk 24 (by decide), ht 7 (by decide), hk 25 (by decide), ht 8 (by decide)]
    exact m24
  · show ∀ c, c < 6 → τ 26 0 c = nI (a' 9 c 0)
    rw [hk 26 (by decide), ht 9 (by decide)]
    exact m26
theorem MP_3 {w sl ru : Nat} {s : Sp} {σ : Sg} {i v : Nat} (h : MP w sl ru s σ) : MP w sl ru (ua s.1 3 i 0 v, s.2) (up σ 20 0 (i) (nI v)) := by
  obtain ⟨⟨m0, m1, m2, m3, m4⟩, m17, m18, m21, m23, m24, m26, m27⟩ := h
  have hk : ∀ k, k ≠ 20 → up σ 20 0 (i) (nI v) k = σ k := fun k hk => up_k hk
  have ht : ∀ t, t ≠ 3 → ua s.1 3 i 0 v t = s.1 t := fun t ht => ua_t ht
  have hA : ∀ i', ua s.1 3 i 0 v 3 i' 0 = if i' = i then v else s.1 3 i' 0 := fun i' => by
    unfold ua
    by_cases q : i' = i
    · rw [if_pos ⟨rfl, q, rfl⟩, if_pos q]
    · rw [if_neg (fun z => q z.2.1), if_neg q]
  have hB : ∀ i', up σ 20 0 i (nI v) 20 0 i' = if i' = i then nI v else σ 20 0 i' := fun i' => by
    rw [up_eq]
    by_cases q : i' = i
    · rw [if_pos ⟨rfl, rfl, q⟩, if_pos q]
    · rw [if_neg (fun z => q z.2.2), if_neg q]
  generalize ua s.1 3 i 0 v = a' at *
  generalize up σ 20 0 (i) (nI v) = τ at *
  refine ⟨⟨by rw [hk 16 (by decide)]; exact m0, by rw [hk 16 (by decide)]; exact m1, by rw [hk 16 (by decide)]; exact m2, by rw [hk 16 (by decide)]; show _ = nI (a' 12 0 0); rw [ht 12 (by decide)]; exact m3, by rw [hk 16 (by decide)]; exact m4⟩, ?_, ?_, ?_, ?_, ?_, ?_, by rw [hk 27 (by decide), hk 28 (by decide), hk 29 (by decide)]; exact m27⟩
  · show ∀ v', v' < w → τ 17 0 v' = nI (a' 0 v' 0)
    rw [hk 17 (by decide), ht 0 (by decide)]
    exact m17
  · show ∀ l, l < 3 * w → τ 18 0 l = nI (a' 1 l 0) ∧ τ 19 0 l = nI (a' 2 l 0) ∧ τ 20 0 l = nI (a' 3 l 0)
    rw [hk 18 (by decide), ht 1 (by decide), hk 19 (by decide), ht 2 (by decide)]
    intro i' h1
    rw [hB i', hA]
    have hb := m18 i' h1
    by_cases q : i' = i
    · rw [if_pos q, if_pos q]; exact ⟨hb.1, hb.2.1, rfl⟩
    · rw [if_neg q, if_neg q]; exact hb
  · show ∀ l n, l < 3 * w → n < 512 → τ 21 0 (512 * l + n) = nI (a' 4 l n) ∧ τ 22 0 (512 * l + n) = nI (a' 5 l n)
    rw [hk 21 (by decide), ht 4 (by decide), hk 22 (by decide), ht 5 (by decide)]
    exact m21
  · show ∀ l n, l < 3 * w → n < 32 → τ 23 0 (32 * l + n) = nI (a' 6 l n)
    rw [hk 23 (by decide), ht 6 (by decide)]
    exact m23
  · show ∀ h, h < 3 → τ 24 0 h = nI (a' 7 h 0) ∧ τ 25 0 h = nI (a' 8 h 0)
    rw [hk 24 (by decide), ht 7 (by decide), hk 25 (by decide), ht 8 (by decide)]
    exact m24
  · show ∀ c, c < 6 → τ 26 0 c = nI (a' 9 c 0)
    rw [hk 26 (by decide), ht 9 (by decide)]
    exact m26
theorem MP_4 {w sl ru : Nat} {s : Sp} {σ : Sg} {i j v : Nat} (h : MP w sl ru s σ) (hj : j < 512) : MP w sl ru (ua s.1 4 i j v, s.2) (up σ 21 0 (512 * i + j) (nI v)) := by
  obtain ⟨⟨m0, m1, m2, m3, m4⟩, m17, m18, m21, m23, m24, m26, m27⟩ := h
  have hk : ∀ k, k ≠ 21 → up σ 21 0 (512 * i + j) (nI v) k = σ k := fun k hk => up_k hk
  have ht : ∀ t, t ≠ 4 → ua s.1 4 i j v t = s.1 t := fun t ht => ua_t ht
  have hA : ∀ i' j', ua s.1 4 i j v 4 i' j' = if i' = i ∧ j' = j then v else s.1 4 i' j' := fun i' j' => by
    unfold ua
    by_cases q : i' = i ∧ j' = j
    · rw [if_pos ⟨rfl, q⟩, if_pos q]
    · rw [if_neg (fun z => q z.2), if_neg q]
  have hB : ∀ i' j', j' < 512 → up σ 21 0 (512 * i + j) (nI v) 21 0 (512 * i' + j') = if i' = i ∧ j' = j then nI v else σ 21 0 (512 * i' + j') := fun i' j' hj' => by
    rw [up_eq]
    by_cases q : i' = i ∧ j' = j
    · rw [if_pos ⟨rfl, rfl, by omega⟩, if_pos q]
    · rw [if_neg (fun z => q (by omega)), if_neg q]
  generalize ua s.1 4 i j v = a' at *
  generalize up σ 21 0 (512 * i + j) (nI v) = τ at *
  refine ⟨⟨by rw [hk 16 (by decide)]; exact m0, by rw [hk 16 (by decide)]; exact m1, by rw [hk 16 (by decide)]; exact m2, by rw [hk 16 (by decide)]; show _ = nI (a' 12 0 0); rw [ht 12 (by decide)]; exact m3, by rw [hk 16 (by decide)]; exact m4⟩, ?_, ?_, ?_, ?_, ?_, ?_, by rw [hk 27 (by decide), hk 28 (by decide), hk 29 (by decide)]; exact m27⟩
  · show ∀ v', v' < w → τ 17 0 v' = nI (a' 0 v' 0)
    rw [hk 17 (by decide), ht 0 (by decide)]
    exact m17
  · show ∀ l, l < 3 * w → τ 18 0 l = nI (a' 1 l 0) ∧ τ 19 0 l = nI (a' 2 l 0) ∧ τ 20 0 l = nI (a' 3 l 0)
    rw [hk 18 (by decide), ht 1 (by decide), hk 19 (by decide), ht 2 (by decide), hk 20 (by decide), ht 3 (by decide)]
    exact m18
  · show ∀ l n, l < 3 * w → n < 512 → τ 21 0 (512 * l + n) = nI (a' 4 l n) ∧ τ 22 0 (512 * l + n) = nI (a' 5 l n)
    rw [hk 22 (by decide), ht 5 (by decide)]
    intro i' j' h1 h2
    rw [hB i' j' h2, hA]
    have hb := m21 i' j' h1 h2
    by_cases q : i' = i ∧ j' = j
    · rw [if_pos q, if_pos q]; exact ⟨rfl, hb.2⟩
    · rw [if_neg q, if_neg q]; exact hb
  · show ∀ l n, l < 3 * w → n < 32 → τ 23 0 (32 * l + n) = nI (a' 6 l n)
    rw [hk 23 (by decide), ht 6 (by decide)]
    exact m23
  · show ∀ h, h < 3 → τ 24 0 h = nI (a' 7 h 0) ∧ τ 25 0 h = nI (a' 8 h 0)
    rw [hk 24 (by decide), ht 7 (by decide), hk 25 (by decide), ht 8 (by decide)]
    exact m24
  · show ∀ c, c < 6 → τ 26 0 c = nI (a' 9 c 0)
    rw [hk 26 (by decide), ht 9 (by decide)]
    exact m26
theorem MP_5 {w sl ru : Nat} {s : Sp} {σ : Sg} {i j v : Nat} (h : MP w sl ru s σ) (hj : j < 512) : MP w sl ru (ua s.1 5 i j v, s.2) (up σ 22 0 (512 * i + j) (nI v)) := by
  obtain ⟨⟨m0, m1, m2, m3, m4⟩, m17, m18, m21, m23, m24, m26, m27⟩ := h
  have hk : ∀ k, k ≠ 22 → up σ 22 0 (512 * i + j) (nI v) k = σ k := fun k hk => up_k hk
  have ht : ∀ t, t ≠ 5 → ua s.1 5 i j v t = s.1 t := fun t ht => ua_t ht
  have hA : ∀ i' j', ua s.1 5 i j v 5 i' j' = if i' = i ∧ j' = j then v else s.1 5 i' j' := fun i' j' => by
    unfold ua
    by_cases q : i' = i ∧ j' = j
    · rw [if_pos ⟨rfl, q⟩, if_pos q]
    · rw [if_neg (fun z => q z.2), if_neg q]
  have hB : ∀ i' j', j' < 512 → up σ 22 0 (512 * i + j) (nI v) 22 0 (512 * i' + j') = if i' = i ∧ j' = j then nI v else σ 22 0 (512 * i' + j') := fun i' j' hj' => by
    rw [up_eq]
    by_cases q : i' = i ∧ j' = j
    · rw [if_pos ⟨rfl, rfl, by omega⟩, if_pos q]
    · rw [if_neg (fun z => q (by omega)), if_neg q]
  generalize ua s.1 5 i j v = a' at *
  generalize up σ 22 0 (512 * i + j) (nI v) = τ at *
  refine ⟨⟨by rw [hk 16 (by decide)]; exact m0, by rw [hk 16 (by decide)]; exact m1, by rw [hk 16 (by decide)]; exact m2, by rw [hk 16 (by decide)]; show _ = nI (a' 12 0 0); rw [ht 12 (by decide)]; exact m3, by rw [hk 16 (by decide)]; exact m4⟩, ?_, ?_, ?_, ?_, ?_, ?_, by rw [hk 27 (by decide), hk 28 (by decide), hk 29 (by decide)]; exact m27⟩
  · show ∀ v', v' < w → τ 17 0 v' = nI (a' 0 v' 0)
    rw [hk 17 (by decide), ht 0 (by decide)]
    exact m17
  · show ∀ l, l < 3 * w → τ 18 0 l = nI (a' 1 l 0) ∧ τ 19 0 l = nI (a' 2 l 0) ∧ τ 20 0 l = nI (a' 3 l 0)
    rw [hk 18 (by decide), ht 1 (by decide), hk 19 (by decide), ht 2 (by decide), hk 20 (by decide), ht 3 (by decide)]
    exact m18
  · show ∀ l n, l < 3 * w → n < 512 → τ 21 0 (512 * l + n) = nI (a' 4 l n) ∧ τ 22 0 (512 * l + n) = nI (a' 5 l n)
    rw [hk 21 (by decide), ht 4 (by decide)]
    intro i' j' h1 h2
    rw [hB i' j' h2, hA]
    have hb := m21 i' j' h1 h2
    by_cases q : i' = i ∧ j' = j
    · rw [if_pos q, if_pos q]; exact ⟨hb.1, rfl⟩
    · rw [if_neg q, if_neg q]; exact hb
  · show ∀ l n, l < 3 * w → n < 32 → τ 23 0 (32 * l + n) = nI (a' 6 l n)
    rw [hk 23 (by decide), ht 6 (by decide)]
    exact m23
  · show ∀ h, h < 3 → τ 24 0 h = nI (a' 7 h 0) ∧ τ 25 0 h = nI (a' 8 h 0)
    rw [hk 24 (by decide), ht 7 (by decide), hk 25 (by decide), ht 8 (by decide)]
    exact m24
  · show ∀ c, c < 6 → τ 26 0 c = nI (a' 9 c 0)
    rw [hk 26 (by decide), ht 9 (by decide)]
    exact m26
theorem MP_6 {w sl ru : Nat} {s : Sp} {σ : Sg} {i j v : Nat} (h : MP w sl ru s σ) (hj : j < 32) : MP w sl ru (ua s.1 6 i j v, s.2) (up σ 23 0 (32 * i + j) (nI v)) := by
  obtain ⟨⟨m0, m1, m2, m3, m4⟩, m17, m18, m21, m23, m24, m26, m27⟩ := h
  have hk : ∀ k, k ≠ 23 → up σ 23 0 (32 * i + j) (nI v) k = σ k := fun k hk => up_k hk
  have ht : ∀ t, t ≠ 6 → ua s.1 6 i j v t = s.1 t := fun t ht => ua_t ht
  have hA : ∀ i' j', ua s.1 6 i j v 6 i' j' = if i' = i ∧ j' = j then v else s.1 6 i' j' := fun i' j' => by
    unfold ua
    by_cases q : i' = i ∧ j' = j
    · rw [if_pos ⟨rfl, q⟩, if_pos q]
    · rw [if_neg (fun z => q z.2), if_neg q]
  have hB : ∀ i' j', j' < 32 → up σ 23 0 (32 * i + j) (nI v) 23 0 (32 * i' + j') = if i' = i ∧ j' = j then nI v else σ 23 0 (32 * i' + j') := fun i' j' hj' => by
    rw [up_eq]
    by_cases q : i' = i ∧ j' = j
    · rw [if_pos ⟨rfl, rfl, by omega⟩, if_pos q]
    · rw [if_neg (fun z => q (by omega)), if_neg q]
  generalize ua s.1 6 i j v = a' at *
  generalize up σ 23 0 (32 * i + j) (nI v) = τ at *
  refine ⟨⟨by rw [hk 16 (by decide)]; exact m0, by rw [hk 16 (by decide)]; exact m1, by rw [hk 16 (by decide)]; exact m2, by rw [hk 16 (by decide)]; show _ = nI (a' 12 0 0); rw [ht 12 (by decide)]; exact m3, by rw [hk 16 (by decide)]; exact m4⟩, ?_, ?_, ?_, ?_, ?_, ?_, by rw [hk 27 (by decide), hk 28 (by decide), hk 29 (by decide)]; exact m27⟩
  · show ∀ v', v' < w → τ 17 0 v' = nI (a' 0 v' 0)
    rw [hk 17 (by decide), ht 0 (by decide)]
    exact m17
  · show ∀ l, l < 3 * w → τ 18 0 l = nI (a' 1 l 0) ∧ τ 19 0 l = nI (a' 2 l 0) ∧ τ 20 0 l = nI (a' 3 l 0)
    rw [hk 18 (by decide), ht 1 (by decide), hk 19 (by decide), ht 2 (by decide), hk 20 (by decide), ht 3 (by decide)]
    exact m18
  · show ∀ l n, l < 3 * w → n < 512 → τ 21 0 (512 * l + n) = nI (a' 4 l n) ∧ τ 22 0 (512 * l + n) = nI (a' 5 l n)
    rw [hk 21 (by decide), ht 4 (by decide), hk 22 (by decide), ht 5 (by decide)]
    exact m21
  · show ∀ l n, l < 3 * w → n < 32 → τ 23 0 (32 * l + n) = nI (a' 6 l n)
    intro i' j' h1 h2
    rw [hB i' j' h2, hA]
    have hb := m23 i' j' h1 h2
    by_cases q : i' = i ∧ j' = j
    · rw [if_pos q, if_pos q]
    · rw [if_neg q, if_neg q]; exact hb
  · show ∀ h, h < 3 → τ 24 0 h = nI (a' 7 h 0) ∧ τ 25 0 h = nI (a' 8 h 0)
    rw [hk 24 (by decide), ht 7 (by decide), hk 25 (by decide), ht 8 (by decide)]
    exact m24
  · show ∀ c, c < 6 → τ 26 0 c = nI (a' 9 c 0)
    rw [hk 26 (by decide), ht 9 (by decide)]
    exact m26
theorem MP_7 {w sl ru : Nat} {s : Sp} {σ : Sg} {i v : Nat} (h : MP w sl ru s σ) : MP w sl ru (ua s.1 7 i 0 v, s.2) (up σ 24 0 (i) (nI v)) := by
  obtain ⟨⟨m0, m1, m2, m3, m4⟩, m17, m18, m21, m23, m24, m26, m27⟩ := h
  have hk : ∀ k, k ≠ 24 → up σ 24 0 (i) (nI v) k = σ k := fun k hk => up_k hk
  have ht : ∀ t, t ≠ 7 → ua s.1 7 i 0 v t = s.1 t := fun t ht => ua_t ht
  have hA : ∀ i', ua s.1 7 i 0 v 7 i' 0 = if i' = i then v else s.1 7 i' 0 := fun i' => by
    unfold ua
    by_cases q : i' = i
    · rw [if_pos ⟨rfl, q, rfl⟩, if_pos q]
    · rw [if_neg (fun z => q z.2.1), if_neg q]
  have hB : ∀ i', up σ 24 0 i (nI v) 24 0 i' = if i' = i then nI v else σ 24 0 i' := fun i' => by
    rw [up_eq]
    by_cases q : i' = i
    · rw [if_pos ⟨rfl, rfl, q⟩, if_pos q]
    · rw [if_neg (fun z => q z.2.2), if_neg q]
  generalize ua s.1 7 i 0 v = a' at *
  generalize up σ 24 0 (i) (nI v) = τ at *
  refine ⟨⟨by rw [hk 16 (by decide)]; exact m0, by rw [hk 16 (by decide)]; exact m1, by rw [hk 16 (by decide)]; exact m2, by rw [hk 16 (by decide)]; show _ = nI (a' 12 0 0); rw [ht 12 (by decide)]; exact m3, by rw [hk 16 (by decide)]; exact m4⟩, ?_, ?_, ?_, ?_, ?_, ?_, by rw [hk 27 (by decide), hk 28 (by decide), hk 29 (by decide)]; exact m27⟩
  · show ∀ v', v' < w → τ 17 0 v' = nI (a' 0 v' 0)
    rw [hk 17 (by decide), ht 0 (by decide)]
    exact m17
  · show ∀ l, l < 3 * w → τ 18 0 l = nI (a' 1 l 0) ∧ τ 19 0 l = nI (a' 2 l 0) ∧ τ 20 0 l = nI (a' 3 l 0)
    rw [hk 18 (by decide), ht 1 (by decide), hk 19 (by decide), ht 2 (by decide), hk 20 (by decide), ht 3 (by decide)]
    exact m18
  · show ∀ l n, l < 3 * w → n < 512 → τ 21 0 (512 * l + n) = nI (a' 4 l n) ∧ τ 22 0 (512 * l + n) = nI (a' 5 l n)
    rw [hk 21 (by decide), ht 4 (by decide), hk 22 (by decide), ht 5 (by decide)]
    exact m21
  · show ∀ l n, l < 3 * w → n < 32 → τ 23 0 (32 * l + n) = nI (a' 6 l n)
    rw [hk 23 (by decide), ht 6 (by decide)]
    exact m23
  · show ∀ h, h < 3 → τ 24 0 h = nI (a' 7 h 0) ∧ τ 25 0 h = nI (a' 8 h 0)
    rw [hk 25 (by decide), ht 8 (by decide)]
    intro i' h1
    rw [hB i', hA]
    have hb := m24 i' h1
    by_cases q : i' = i
    · rw [if_pos q, if_pos q]; exact ⟨rfl, hb.2⟩
    · rw [if_neg q, if_neg q]; exact hb
  · show ∀ c, c < 6 → τ 26 0 c = nI (a' 9 c 0)
    rw [hk 26 (by decide), ht 9 (by decide)]
    exact m26
theorem MP_8 {w sl ru : Nat} {s : Sp} {σ : Sg} {i v : Nat} (h : MP w sl ru s σ) : MP w sl ru (ua s.1 8 i 0 v, s.2) (up σ 25 0 (i) (nI v)) := by
  obtain ⟨⟨m0, m1, m2, m3, m4⟩, m17, m18, m21, m23, m24, m26, m27⟩ := h
  have hk : ∀ k, k ≠ 25 → up σ 25 0 (i) (nI v) k = σ k := fun k hk => up_k hk
  have ht : ∀ t, t ≠ 8 → ua s.1 8 i 0 v t = s.1 t := fun t ht => ua_t ht
  have hA : ∀ i', ua s.1 8 i 0 v 8 i' 0 = if i' = i then v else s.1 8 i' 0 := fun i' => by
    unfold ua
    by_cases q : i' = i
    · rw [if_pos ⟨rfl, q, rfl⟩, if_pos q]
    · rw [if_neg (fun z => q z.2.1), if_neg q]
  have hB : ∀ i', up σ 25 0 i (nI v) 25 0 i' = if i' = i then nI v else σ 25 0 i' := fun i' => by
    rw [up_eq]
    by_cases q : i' = i
    · rw [if_pos ⟨rfl, rfl, q⟩, if_pos q]
    · rw [if_neg (fun z => q z.2.2), if_neg q]
  generalize ua s.1 8 i 0 v = a' at *
  generalize up σ 25 0 (i) (nI v) = τ at *
  refine ⟨⟨by rw [hk 16 (by decide)]; exact m0, by rw [hk 16 (by decide)]; exact m1, by rw [hk 16 (by decide)]; exact m2, by rw [hk 16 (by decide)]; show _ = nI (a' 12 0 0); rw [ht 12 (by decide)]; exact m3, by rw [hk 16 (by decide)]; exact m4⟩, ?_, ?_, ?_, ?_, ?_, ?_, by rw [hk 27 (by decide), hk 28 (by decide), hk 29 (by decide)]; exact m27⟩
  · show ∀ v', v' < w → τ 17 0 v' = nI (a' 0 v' 0)
    rw [hk 17 (by decide), ht 0 (by decide)]
    exact m17
  · show ∀ l, l < 3 * w → τ 18 0 l = nI (a' 1 l 0) ∧ τ 19 0 l = nI (a' 2 l 0) ∧ τ 20 0 l = nI (a' 3 l 0)
    rw [hk 18 (by decide), ht 1 (by decide), hk 19 (by decide), ht 2 (by decide), hk 20 (by decide), ht 3 (by decide)]
    exact m18
  · show ∀ l n, l < 3 * w → n < 512 → τ 21 0 (512 * l + n) = nI (a' 4 l n) ∧ τ 22 0 (512 * l + n) = nI (a' 5 l n)
    rw [hk 21 (by decide), ht 4 (by decide), hk 22 (by decide), ht 5 (by decide)]
    exact m21
  · show ∀ l n, l < 3 * w → n < 32 → τ 23 0 (32 * l + n) = nI (a' 6 l n)
    rw [hk 23 (by decide), ht 6 (by decide)]
    exact m23
  · show ∀ h, h < 3 → τ 24 0 h = nI (a' 7 h 0) ∧ τ 25 0 h = nI (a' 8 h 0)
    rw [hk 24 (by decide), ht 7 (by decide)]
    intro i' h1
    rw [hB i', hA]
    have hb := m24 i' h1
    by_cases q : i' = i
    · rw [if_pos q, if_pos q]; exact ⟨hb.1, rfl⟩
    · rw [if_neg q, if_neg q]; exact hb
  · show ∀ c, c < 6 → τ 26 0 c = nI (a' 9 c 0)
    rw [hk 26 (by decide), ht 9 (by decide)]
    exact m26
theorem MP_9 {w sl ru : Nat} {s : Sp} {σ : Sg} {i v : Nat} (h : MP w sl ru s σ) : MP w sl ru (ua s.1 9 i 0 v, s.2) (up σ 26 0 (i) (nI v)) := by
  obtain ⟨⟨m0, m1, m2, m3, m4⟩, m17, m18, m21, m23, m24, m26, m27⟩ := h
  have hk : ∀ k, k ≠ 26 → up σ 26 0 (i) (nI v) k = σ k := fun k hk => up_k hk
  have ht : ∀ t, t ≠ 9 → ua s.1 9 i 0 v t = s.1 t := fun t ht => ua_t ht
  have hA : ∀ i', ua s.1 9 i 0 v 9 i' 0 = if i' = i then v else s.1 9 i' 0 := fun i' => by
    unfold ua
    by_cases q : i' = i
    · rw [if_pos ⟨rfl, q, rfl⟩, if_pos q]
    · rw [if_neg (fun z => q z.2.1), if_neg q]
  have hB : ∀ i', up σ 26 0 i (nI v) 26 0 i' = if i' = i then nI v else σ 26 0 i' := fun i' => by
    rw [up_eq]
    by_cases q : i' = i
    · rw [if_pos ⟨rfl, rfl, q⟩, if_pos q]
    · rw [if_neg (fun z => q z.2.2), if_neg q]
  generalize ua s.1 9 i 0 v = a' at *
  generalize up σ 26 0 (i) (nI v) = τ at *
  refine ⟨⟨by rw [hk 16 (by decide)]; exact m0, by rw [hk 16 (by decide)]; exact m1, by rw [hk 16 (by decide)]; exact m2, by rw [hk 16 (by decide)]; show _ = nI (a' 12 0 0); rw [ht 12 (by decide)]; exact m3, by rw [hk 16 (by decide)]; exact m4⟩, ?_, ?_, ?_, ?_, ?_, ?_, by rw [hk 27 (by decide), hk 28 (by decide), hk 29 (by decide)]; exact m27⟩
  · show ∀ v', v' < w → τ 17 0 v' = nI (a' 0 v' 0)
    rw [hk 17 (by decide), ht 0 (by decide)]
    exact m17
  · show ∀ l, l < 3 * w → τ 18 0 l = nI (a' 1 l 0) ∧ τ 19 0 l = nI (a' 2 l 0) ∧ τ 20 0 l = nI (a' 3 l 0)
    rw [hk 18 (by decide), ht 1 (by decide), hk 19 (by decide), ht 2 (by decide), hk 20 (by decide), ht 3 (by decide)]
    exact m18
  · show ∀ l n, l < 3 * w → n < 512 → τ 21 0 (512 * l + n) = nI (a' 4 l n) ∧ τ 22 0 (512 * l + n) = nI (a' 5 l n)
    rw [hk 21 (by decide), ht 4 (by decide), hk 22 (by decide), ht 5 (by decide)]
    exact m21
  · show ∀ l n, l < 3 * w → n < 32 → τ 23 0 (32 * l + n) = nI (a' 6 l n)
    rw [hk 23 (by decide), ht 6 (by decide)]
    exact m23
  · show ∀ h, h < 3 → τ 24 0 h = nI (a' 7 h 0) ∧ τ 25 0 h = nI (a' 8 h 0)
    rw [hk 24 (by decide), ht 7 (by decide), hk 25 (by decide), ht 8 (by decide)]
    exact m24
  · show ∀ c, c < 6 → τ 26 0 c = nI (a' 9 c 0)
    intro i' h1
    rw [hB i', hA]
    have hb := m26 i' h1
    by_cases q : i' = i
    · rw [if_pos q, if_pos q]
    · rw [if_neg q, if_neg q]; exact hb
theorem MP_16 {w sl ru : Nat} {s : Sp} {σ : Sg} {j : Nat} {x : Int32} (h : MP w sl ru s σ) (hj : 4 ≤ j) (hj2 : j ≠ 14) : MP w sl ru s (up σ 16 0 j x) := by
  obtain ⟨⟨m0, m1, m2, m3, m4⟩, m17, m18, m21, m23, m24, m26, m27⟩ := h
  have hk : ∀ k, k ≠ 16 → up σ 16 0 j x k = σ k := fun k hk => up_k hk
  have hB : ∀ i, i ≠ j → up σ 16 0 j x 16 0 i = σ 16 0 i := fun i hi => by rw [up_eq, if_neg (fun z => hi z.2.2)]
  refine ⟨⟨by rw [hB 0 (by omega)]; exact m0, by rw [hB 1 (by omega)]; exact m1, by rw [hB 2 (by omega)]; exact m2, by rw [hB 3 (by omega)]; exact m3, by rw [hB 14 (by omega)]; exact m4⟩, ?_, ?_, ?_, ?_, ?_, ?_, ?_⟩
  · rw [hk 17 (by decide)]; exact m17
  · rw [hk 18 (by decide), hk 19 (by decide), hk 20 (by decide)]; exact m18
  · rw [hk 21 (by decide), hk 22 (by decide)]; exact m21
  · rw [hk 23 (by decide)]; exact m23
  · rw [hk 24 (by decide), hk 25 (by decide)]; exact m24
  · rw [hk 26 (by decide)]; exact m26
  · rw [hk 27 (by decide), hk 28 (by decide), hk 29 (by decide)]; exact m27
theorem MP_12 {w sl ru : Nat} {s : Sp} {σ : Sg} {v : Nat} (h : MP w sl ru s σ) : MP w sl ru (ua s.1 12 0 0 v, s.2) (up σ 16 0 3 (nI v)) := by
  obtain ⟨⟨m0, m1, m2, m3, m4⟩, m17, m18, m21, m23, m24, m26, m27⟩ := h
  have hk : ∀ k, k ≠ 16 → up σ 16 0 3 (nI v) k = σ k := fun k hk => up_k hk
  have hB : ∀ i, i ≠ 3 → up σ 16 0 3 (nI v) 16 0 i = σ 16 0 i := fun i hi => by rw [up_eq, if_neg (fun z => hi z.2.2)]
  have ht : ∀ t, t ≠ 12 → ua s.1 12 0 0 v t = s.1 t := fun t ht => ua_t ht
  refine ⟨⟨by rw [hB 0 (by omega)]; exact m0, by rw [hB 1 (by omega)]; exact m1, by rw [hB 2 (by omega)]; exact m2, by show _ = nI (ua s.1 12 0 0 v 12 0 0); rw [ua_at]; simp [up_eq], by rw [hB 14 (by omega)]; exact m4⟩, ?_, ?_, ?_, ?_, ?_, ?_, ?_⟩
  · show ∀ v', v' < w → _ = nI (ua s.1 12 0 0 v 0 v' 0); rw [hk 17 (by decide), ht 0 (by decide)]; exact m17
  · show ∀ l, l < 3 * w → _ = nI (ua s.1 12 0 0 v 1 l 0) ∧ _ = nI (ua s.1 12 0 0 v 2 l 0) ∧ _ = nI (ua s.1 12 0 0 v 3 l 0); rw [hk 18 (by decide), hk 19 (by decide), hk 20 (by decide), ht 1 (by decide), ht 2 (by decide), ht 3 (by decide)]; exact m18
  · show ∀ l n, l < 3 * w → n < 512 → _ = nI (ua s.1 12 0 0 v 4 l n) ∧ _ = nI (ua s.1 12 0 0 v 5 l n); rw [hk 21 (by decide), hk 22 (by decide), ht 4 (by decide), ht 5 (by decide)]; exact m21
  · show ∀ l n, l < 3 * w → n < 32 → _ = nI (ua s.1 12 0 0 v 6 l n); rw [hk 23 (by decide), ht 6 (by decide)]; exact m23
  · show ∀ h, h < 3 → _ = nI (ua s.1 12 0 0 v 7 h 0) ∧ _ = nI (ua s.1 12 0 0 v 8 h 0); rw [hk 24 (by decide), hk 25 (by decide), ht 7 (by decide), ht 8 (by decide)]; exact m24
  · show ∀ c, c < 6 → _ = nI (ua s.1 12 0 0 v 9 c 0); rw [hk 26 (by decide), ht 9 (by decide)]; exact m26
  · rw [hk 27 (by decide), hk 28 (by decide), hk 29 (by decide)]; exact m27
