/-! the reference's store and picture -/
def sdM (σ : Sg) (n : Nat) (k l m : Int32) : Sg := if n < 24 then up (up (up (up (up σ 26 0 0 (σ 26 0 0 + nI 1)) 27 0 n k) 28 0 n l) 29 0 n m) 16 0 14 (nI (n + 1)) else up (up σ 26 0 0 (σ 26 0 0 + nI 1)) 26 0 1 (σ 26 0 1 + nI 1)
def rmM (σ : Sg) (n j : Nat) : Sg := upr (upr (upr (up σ 16 0 14 (nI (n - 1))) 27 0 (va_cpy (σ 27 0) (σ 27 0) (j + 1) j (n - 1 - j))) 28 0 (va_cpy (σ 28 0) (σ 28 0) (j + 1) j (n - 1 - j))) 29 0 (va_cpy (σ 29 0) (σ 29 0) (j + 1) j (n - 1 - j))
/-- what of the reference's picture speaks of packets and counts -/
def MN (s : Sp) (σ : Sg) : Prop := σ 16 0 14 = nI s.2.length ∧ (∀ c, c < 6 → σ 26 0 c = nI (s.1 9 c 0)) ∧ ∀ i c, s.2[i]? = some c → σ 27 0 i = nI (c % 2) ∧ σ 28 0 i = nI (lkc c) ∧ σ 29 0 i = nI (c / 32)
theorem MP_mn {w sl ru : Nat} {s : Sp} {σ : Sg} (h : MP w sl ru s σ) : MN s σ := ⟨h.1.2.2.2.2, h.2.2.2.2.2.2.1, h.2.2.2.2.2.2.2⟩
theorem MP_to {w sl ru : Nat} {s s' : Sp} {σ τ : Sg} (h : MP w sl ru s σ) (hN : MN s' τ) (h16 : ∀ j, j < 4 → τ 16 0 j = σ 16 0 j) (hk : ∀ k, 17 ≤ k → k ≤ 25 → τ k = σ k) (ha : ∀ t, t ≠ 9 → s'.1 t = s.1 t) : MP w sl ru s' τ := by
  obtain ⟨⟨m0, m1, m2, m3, -⟩, m17, m18, m21, m23, m24, -, -⟩ := h
  refine ⟨⟨by rw [h16 0 (by decide)]; exact m0, by rw [h16 1 (by decide)]; exact m1, by rw [h16 2 (by decide)]; exact m2, by rw [h16 3 (by decide), ha 12 (by decide)]; exact m3, hN.1⟩, ?_, ?_, ?_, ?_, ?_, hN.2.1, hN.2.2⟩
  · rw [hk 17 (by decide) (by decide), ha 0 (by decide)]; exact m17
  · rw [hk 18 (by decide) (by decide), hk 19 (by decide) (by decide), hk 20 (by decide) (by decide), ha 1 (by decide), ha 2 (by decide), ha 3 (by decide)]; exact m18
  · rw [hk 21 (by decide) (by decide), hk 22 (by decide) (by decide), ha 4 (by decide), ha 5 (by decide)]; exact m21
  · rw [hk 23 (by decide) (by decide), ha 6 (by decide)]; exact m23
  · rw [hk 24 (by decide) (by decide), hk 25 (by decide) (by decide), ha 7 (by decide), ha 8 (by decide)]; exact m24
theorem MN_snd {s : Sp} {σ : Sg} {c : Nat} (h : MN s σ) : MN (snd s c) (sdM σ s.2.length (nI (c % 2)) (nI (lkc c)) (nI (c / 32))) := by
  obtain ⟨h1, h2, h3⟩ := h
  have h20 := h2 0 (by decide)
  have h21 := h2 1 (by decide)
  unfold snd sdM
  split
  next hn =>
    refine ⟨?_, fun i hi => ?_, fun i d hd => ?_⟩
    · simp [up_eq]
    · by_cases q : i = 0
      · subst q
        simp [up_eq, h20, nI_add, ua]
      · simp [up_eq, q, h2 i hi, ua]
    · by_cases hi : i = s.2.length
      · subst hi
        have hd : (s.2 ++ [c])[s.2.length]? = some d := hd
        rw [List.getElem?_append_right (Nat.le_refl _)] at hd
        simp at hd
        subst hd
        simp [up_eq]
      · have hd : (s.2 ++ [c])[i]? = some d := hd
        have hlt : i < s.2.length := by
          have := (List.getElem?_eq_some_iff.mp hd).1
          simp at this
          omega
        rw [List.getElem?_append_left hlt] at hd
        have := h3 i d hd
        simp [up_eq, hi, this]
  next hn =>
    refine ⟨?_, fun i hi => ?_, fun i d hd => ?_⟩
    · simp [up_eq, h1]
    · by_cases q : i = 0
      · subst q
        simp [up_eq, h20, nI_add, ua]
      · by_cases q1 : i = 1
        · subst q1
          simp [up_eq, h21, nI_add, ua]
        · simp [up_eq, q, q1, h2 i hi, ua]
    · have := h3 i d hd
      simp [up_eq, this]
theorem MN_rm {s : Sp} {σ : Sg} {j : Nat} (h : MN s σ) (hj : j < s.2.length) : MN (s.1, s.2.eraseIdx j) (rmM σ s.2.length j) := by
  obtain ⟨h1, h2, h3⟩ := h
  have e16 : rmM σ s.2.length j 16 = up σ 16 0 14 (nI (s.2.length - 1)) 16 := by unfold rmM; rw [upr_k (by decide), upr_k (by decide), upr_k (by decide)]
  have e26 : rmM σ s.2.length j 26 = σ 26 := by unfold rmM; rw [upr_k (by decide), upr_k (by decide), upr_k (by decide), up_k (by decide)]
  have e27 : rmM σ s.2.length j 27 0 = va_cpy (σ 27 0) (σ 27 0) (j + 1) j (s.2.length - 1 - j) := by unfold rmM; rw [upr_k (by decide), upr_k (by decide), upr_at]
  have e28 : rmM σ s.2.length j 28 0 = va_cpy (σ 28 0) (σ 28 0) (j + 1) j (s.2.length - 1 - j) := by unfold rmM; rw [upr_k (by decide), upr_at]
  have e29 : rmM σ s.2.length j 29 0 = va_cpy (σ 29 0) (σ 29 0) (j + 1) j (s.2.length - 1 - j) := by unfold rmM; rw [upr_at]
  refine ⟨?_, fun i hi => by rw [e26]; exact h2 i hi, fun i d hd => ?_⟩
  · show rmM σ s.2.length j 16 0 14 = nI (s.2.eraseIdx j).length
    rw [List.length_eraseIdx_of_lt hj, e16]
    simp [up_eq]
  · have hd : (s.2.eraseIdx j)[i]? = some d := hd
    rw [List.getElem?_eraseIdx] at hd
    rw [e27, e28, e29]
    split at hd
    next hlt => rw [pk_cpy_out (Or.inl hlt), pk_cpy_out (Or.inl hlt), pk_cpy_out (Or.inl hlt)]; exact h3 i d hd
    next hge =>
      have hl := (List.getElem?_eq_some_iff.mp hd).1
      rw [pk_cpy_in (by omega) (by omega), pk_cpy_in (by omega) (by omega), pk_cpy_in (by omega) (by omega), show j + 1 + (i - j) = i + 1 by omega]
      exact h3 (i + 1) d hd
theorem MP_snd {w sl ru : Nat} {s : Sp} {σ : Sg} {c : Nat} (h : MP w sl ru s σ) : MP w sl ru (snd s c) (sdM σ s.2.length (nI (c % 2)) (nI (lkc c)) (nI (c / 32))) := by
  refine MP_to h (MN_snd (MP_mn h)) (fun j hj => ?_) (fun k h1 h2 => ?_) (fun t ht => snd_t ht)
  · unfold sdM
    split
    · have : j ≠ 14 := by omega
      simp [up_eq, this]
    · simp [up_eq]
  · unfold sdM
    split
    · rw [up_k (by omega), up_k (by omega), up_k (by omega), up_k (by omega), up_k (by omega)]
    · rw [up_k (by omega), up_k (by omega)]
theorem MP_rm {w sl ru : Nat} {s : Sp} {σ : Sg} {j : Nat} (h : MP w sl ru s σ) (hj : j < s.2.length) : MP w sl ru (s.1, s.2.eraseIdx j) (rmM σ s.2.length j) := by
  refine MP_to h (MN_rm (MP_mn h) hj) (fun i hi => ?_) (fun k h1 h2 => ?_) (fun t ht => rfl)
  · unfold rmM
    rw [upr_k (by decide), upr_k (by decide), upr_k (by decide)]
    have : i ≠ 14 := by omega
    simp [up_eq, this]
  · unfold rmM
    rw [upr_k (by omega), upr_k (by omega), upr_k (by omega), up_k (by omega)]
