/-! stores after the class's small methods; what of the pictures they leave -/
def sdC (σ : Sg) (n : Nat) (c : Int32) : Sg := if n < 24 then up (up (up σ 3 0 2 (σ 3 0 2 + nI 1)) 4 0 n c) 3 0 1 (nI (n + 1)) else up (up σ 3 0 2 (σ 3 0 2 + nI 1)) 3 0 3 (σ 3 0 3 + nI 1)
def rmC (σ : Sg) (n j : Nat) : Sg := upr (up σ 3 0 1 (nI (n - 1))) 4 0 (va_cpy (σ 4 0) (σ 4 0) (j + 1) j (n - 1 - j))
def apC (σ : Sg) (l n : Nat) (p q : Int32) : Sg := up (up (up (up σ 12 l (n % 32) p) 13 l (n % 32) q) 15 l (n % 32) (nI 0)) 11 l 6 (nI (n + 1))
theorem sdC_k {σ : Sg} {n : Nat} {c : Int32} {k : Nat} (h3 : k ≠ 3) (h4 : k ≠ 4) : sdC σ n c k = σ k := by
  unfold sdC
  split
  · rw [up_k h3, up_k h4, up_k h3]
  · rw [up_k h3, up_k h3]
theorem rmC_k {σ : Sg} {n j : Nat} {k : Nat} (h3 : k ≠ 3) (h4 : k ≠ 4) : rmC σ n j k = σ k := by
  unfold rmC
  rw [upr_k h4, up_k h3]
theorem LkP_to {a a' : Ab} {σ τ : Sg} {l : Nat} (h : LkP a σ l) (h11 : τ 11 l = σ 11 l) (h12 : τ 12 l = σ 12 l) (h13 : τ 13 l = σ 13 l) (h14 : τ 14 l = σ 14 l) (ha : ∀ t, 1 ≤ t → t ≤ 6 → a' t l = a t l) : LkP a' τ l := by
  unfold LkP RgP at *
  rw [h11, h12, h13, h14, ha 1 (by omega) (by omega), ha 2 (by omega) (by omega), ha 3 (by omega) (by omega), ha 4 (by omega) (by omega), ha 6 (by omega) (by omega)]
  exact h
theorem trn_to {a a' : Ab} {l : Nat} (h1 : a' 1 l = a 1 l) (h5 : a' 5 l = a 5 l) : trn a' l = trn a l := by unfold trn; rw [h1, h5]
theorem bnd_to {a a' : Ab} {l c : Nat} (h1 : a' 1 l = a 1 l) (h4 : a' 4 l = a 4 l) : bnd a' l c = bnd a l c := by unfold bnd; rw [h1, h4]
theorem don_to {w : Nat} {a a' : Ab} {h : Nat} (ha : ∀ v, v < w → a' 1 (3 * v + h) = a 1 (3 * v + h) ∧ a' 4 (3 * v + h) = a 4 (3 * v + h) ∧ a' 5 (3 * v + h) = a 5 (3 * v + h)) : don w a' h = don w a h := by
  unfold don
  refine minF_congr w (fun v hv => ?_)
  obtain ⟨h1, h4, h5⟩ := ha v hv
  show en (a' 4 (3 * v + h)) (trn a' (3 * v + h)) = en (a 4 (3 * v + h)) (trn a (3 * v + h))
  rw [h4, trn_to h1 h5]
theorem wko_to {ru w : Nat} {a a' : Ab} {k c : Nat} (ha : ∀ v, v < w → a' 1 (3 * v + k % 3) = a 1 (3 * v + k % 3) ∧ a' 4 (3 * v + k % 3) = a 4 (3 * v + k % 3)) : wko ru w a' k c = wko ru w a k c := by
  unfold wko
  refine wo_congr c (fun j hj => ?_)
  unfold gsm
  refine gF_congr w (fun v hv => ?_)
  obtain ⟨h1, h4⟩ := ha v hv
  unfold con
  rw [bnd_to h1 h4, h1, h4]
theorem NtP_snd {s : Sp} {σ : Sg} {c : Nat} (h : NtP s σ) : NtP (snd s c) (sdC σ s.2.length (nI c)) := by
  obtain ⟨h1, h2, h3, h4⟩ := h
  unfold snd sdC
  split
  next hn =>
    refine ⟨?_, ?_, ?_, fun i d hd => ?_⟩
    · simp [up_eq]
    · simp [up_eq, h2, nI_add, ua]
    · simp [up_eq, h3, ua]
    · by_cases hi : i = s.2.length
      · subst hi
        rw [List.getElem?_append_right (Nat.le_refl _)] at hd
        simp at hd
        simp [up_eq, hd]
      · have hlt : i < s.2.length := by
          have := (List.getElem?_eq_some_iff.mp hd).1
          simp at this
          omega
        rw [List.getElem?_append_left hlt] at hd
        simp [up_eq, hi, h4 i d hd]
  next hn =>
    refine ⟨?_, ?_, ?_, fun i d hd => ?_⟩
    · simp [up_eq, h1]
    · simp [up_eq, h2, nI_add, ua]
    · simp [up_eq, h3, nI_add, ua]
    · simp [up_eq, h4 i d hd]
theorem NtP_rm {s : Sp} {σ : Sg} {j : Nat} (h : NtP s σ) (hj : j < s.2.length) : NtP (s.1, s.2.eraseIdx j) (rmC σ s.2.length j) := by
  obtain ⟨h1, h2, h3, h4⟩ := h
  refine ⟨?_, ?_, ?_, fun i d hd => ?_⟩
  · show rmC σ s.2.length j 3 0 1 = nI (s.2.eraseIdx j).length
    rw [List.length_eraseIdx_of_lt hj]
    unfold rmC
    rw [upr_k (by decide)]
    simp [up_eq]
  · unfold rmC
    rw [upr_k (by decide)]
    simp [up_eq, h2]
  · unfold rmC
    rw [upr_k (by decide)]
    simp [up_eq, h3]
  · have hd : (s.2.eraseIdx j)[i]? = some d := hd
    rw [List.getElem?_eraseIdx] at hd
    unfold rmC
    rw [upr_at]
    split at hd
    next hlt => rw [pk_cpy_out (Or.inl hlt)]; exact h4 i d hd
    next hge =>
      have hl := (List.getElem?_eq_some_iff.mp hd).1
      rw [pk_cpy_in (by omega) (by omega), show j + 1 + (i - j) = i + 1 by omega]
      exact h4 (i + 1) d hd
theorem ua_t {a : Ab} {t i j v t' : Nat} (h : t' ≠ t) : ua a t i j v t' = a t' := by
  funext i' j'
  exact ua_ne (fun q => h q.1)
theorem ua_ti {a : Ab} {t i j v t' i' : Nat} (h : ¬ (t' = t ∧ i' = i)) : ua a t i j v t' i' = a t' i' := by
  funext j'
  exact ua_ne (fun q => h ⟨q.1, q.2.1⟩)
theorem snd_t {s : Sp} {c t : Nat} (h : t ≠ 9) : (snd s c).1 t = s.1 t := by
  unfold snd
  split
  · exact ua_t h
  · show ua (ua s.1 9 0 0 (s.1 9 0 0 + 1)) 9 1 0 (s.1 9 1 0 + 1) t = s.1 t
    rw [ua_t h, ua_t h]
theorem snd_9 {s : Sp} {c i j : Nat} (h : 2 ≤ i) : (snd s c).1 9 i j = s.1 9 i j := by
  unfold snd
  split
  · exact ua_ne (by omega)
  · show ua (ua s.1 9 0 0 (s.1 9 0 0 + 1)) 9 1 0 (s.1 9 1 0 + 1) 9 i j = s.1 9 i j
    rw [ua_ne (by omega), ua_ne (by omega)]
theorem GsP_to {w sl : Nat} {s s' : Sp} {σ τ : Sg} (h : GsP w sl s σ) (h0 : τ 0 0 = σ 0 0) (h1 : τ 1 0 = σ 1 0) (a0 : s'.1 0 = s.1 0) (a12 : s'.1 12 0 0 = s.1 12 0 0) (a9 : ∀ i, 2 ≤ i → s'.1 9 i 0 = s.1 9 i 0) : GsP w sl s' τ := by
  unfold GsP at *
  rw [h0, h1, a0, a12, a9 2 (by omega), a9 3 (by omega), a9 4 (by omega), a9 5 (by omega)]
  exact h
theorem LkU_to {w : Nat} {a a' : Ab} {σ τ : Sg} {l : Nat} (h : LkU w a σ l) (h11 : τ 11 l = σ 11 l) (h15 : τ 15 l = σ 15 l) (hl : l < 3 * w) (ha : ∀ v, v < w → a' 1 (3 * v + l % 3) = a 1 (3 * v + l % 3) ∧ a' 4 (3 * v + l % 3) = a 4 (3 * v + l % 3) ∧ a' 5 (3 * v + l % 3) = a 5 (3 * v + l % 3)) : LkU w a' τ l := by
  obtain ⟨e1, e4, e5⟩ := ha (l / 3) (by omega)
  rw [show 3 * (l / 3) + l % 3 = l by omega] at e1 e4 e5
  unfold LkU at *
  rw [h11, h15, trn_to e1 e5, bnd_to e1 e4, don_to ha, e1, e4, e5]
  exact h
theorem ShP_to {ru w : Nat} {a a' : Ab} {σ τ : Sg} {h : Nat} (hh : h < 3) (hP : ShP ru w a σ h) (h5 : τ 5 h = σ 5 h) (h9 : τ 9 h = σ 9 h) (h10 : τ 10 h = σ 10 h) (a7 : a' 7 h 0 = a 7 h 0) (a8 : a' 8 h 0 = a 8 h 0) (ha : ∀ v, v < w → a' 1 (3 * v + h) = a 1 (3 * v + h) ∧ a' 4 (3 * v + h) = a 4 (3 * v + h)) : ShP ru w a' τ h := by
  obtain ⟨p1, p2, p3, p4⟩ := hP
  refine ⟨by rw [h5]; exact p1, by rw [h5, a8]; exact p2, by rw [h5, a7]; exact p3, fun p hp => ?_⟩
  have e : (3 * p + h) % 3 = h := by omega
  rw [h9, h10, a8, wko_to (a := a) (by rw [e]; exact ha)]
  exact p4 p hp
theorem ShU_to {ru w : Nat} {a a' : Ab} {σ τ : Sg} {h : Nat} (hh : h < 3) (hP : ShU ru w a σ h) (h5 : τ 5 h = σ 5 h) (h7 : τ 7 h = σ 7 h) (h8 : τ 8 h = σ 8 h) (ha : ∀ v, v < w → a' 1 (3 * v + h) = a 1 (3 * v + h) ∧ a' 4 (3 * v + h) = a 4 (3 * v + h) ∧ a' 5 (3 * v + h) = a 5 (3 * v + h)) : ShU ru w a' τ h := by
  obtain ⟨p1, p4⟩ := hP
  refine ⟨by rw [h5, don_to ha]; exact p1, fun p hp => ?_⟩
  have e : (3 * p + h) % 3 = h := by omega
  rw [h7, h8, don_to ha, wko_to (a := a) (by rw [e]; exact fun v hv => ⟨(ha v hv).1, (ha v hv).2.1⟩)]
  exact p4 p hp
/-- what touches neither a link's messages nor a shard -/
theorem CP_to {w sl ru : Nat} {s s' : Sp} {σ τ : Sg} (h : CP w sl ru s σ) (hG : GsP w sl s' τ) (hN : NtP s' τ) (hk : ∀ k, 5 ≤ k → k ≤ 15 → τ k = σ k) (ha : ∀ t, 1 ≤ t → t ≤ 8 → s'.1 t = s.1 t) : CP w sl ru s' τ := by
  obtain ⟨-, -, hL, hS, hU⟩ := h
  have k5 := hk 5 (by omega) (by omega)
  have k7 := hk 7 (by omega) (by omega)
  have k8 := hk 8 (by omega) (by omega)
  have k9 := hk 9 (by omega) (by omega)
  have k10 := hk 10 (by omega) (by omega)
  have k11 := hk 11 (by omega) (by omega)
  have k12 := hk 12 (by omega) (by omega)
  have k13 := hk 13 (by omega) (by omega)
  have k14 := hk 14 (by omega) (by omega)
  have k15 := hk 15 (by omega) (by omega)
  have a1 := ha 1 (by omega) (by omega)
  have a4 := ha 4 (by omega) (by omega)
  have a5 := ha 5 (by omega) (by omega)
  have a7 := ha 7 (by omega) (by omega)
  have a8 := ha 8 (by omega) (by omega)
  refine ⟨hG, hN, fun l hl => LkP_to (hL l hl) (by rw [k11]) (by rw [k12]) (by rw [k13]) (by rw [k14]) (fun t h1 h2 => by rw [ha t h1 (by omega)]), fun h hh => ShP_to hh (hS h hh) (by rw [k5]) (by rw [k9]) (by rw [k10]) (by rw [a7]) (by rw [a8]) (fun v hv => ⟨by rw [a1], by rw [a4]⟩), fun h hh h7 => ?_⟩
  rw [a7] at h7
  obtain ⟨u1, u2⟩ := hU h hh h7
  exact ⟨ShU_to hh u1 (by rw [k5]) (by rw [k7]) (by rw [k8]) (fun v hv => ⟨by rw [a1], by rw [a4], by rw [a5]⟩), fun v hv => LkU_to (u2 v hv) (by rw [k11]) (by rw [k15]) (by omega) (fun v hv => ⟨by rw [a1], by rw [a4], by rw [a5]⟩)⟩
theorem CP_snd {w sl ru : Nat} {s : Sp} {σ : Sg} {c : Nat} (h : CP w sl ru s σ) : CP w sl ru (snd s c) (sdC σ s.2.length (nI c)) :=
  CP_to h (GsP_to h.1 (by rw [sdC_k (by decide) (by decide)]) (by rw [sdC_k (by decide) (by decide)]) (snd_t (by decide)) (by rw [snd_t (by decide)]) (fun i hi => snd_9 hi)) (NtP_snd h.2.1) (fun k h1 h2 => sdC_k (by omega) (by omega)) (fun t h1 h2 => snd_t (by omega))
theorem CP_rm {w sl ru : Nat} {s : Sp} {σ : Sg} {j : Nat} (h : CP w sl ru s σ) (hj : j < s.2.length) : CP w sl ru (s.1, s.2.eraseIdx j) (rmC σ s.2.length j) :=
  CP_to h (GsP_to h.1 (by rw [rmC_k (by decide) (by decide)]) (by rw [rmC_k (by decide) (by decide)]) rfl rfl (fun i hi => rfl)) (NtP_rm h.2.1 hj) (fun k h1 h2 => rmC_k (by omega) (by omega)) (fun t h1 h2 => rfl)
