/-! the class's picture: counts, time, clocks, confirmations, a message taken -/
theorem NtP_to {s s' : Sp} {σ τ : Sg} (h : NtP s σ) (h3 : τ 3 = σ 3) (h4 : τ 4 = σ 4) (hp : s'.2 = s.2) (h90 : s'.1 9 0 0 = s.1 9 0 0) (h91 : s'.1 9 1 0 = s.1 9 1 0) : NtP s' τ := by
  unfold NtP at *
  rw [h3, h4, hp, h90, h91]
  exact h
theorem CP_cnt {w sl ru : Nat} {s : Sp} {σ : Sg} {i v : Nat} (h : CP w sl ru s σ) (hi : i = 2 ∨ i = 3 ∨ i = 4 ∨ i = 5) : CP w sl ru (ua s.1 9 i 0 v, s.2) (up σ 0 0 (i + 3) (nI v)) := by
  refine CP_to h ?_ (NtP_to h.2.1 (up_k (by decide)) (up_k (by decide)) rfl (ua_ne (by omega)) (ua_ne (by omega))) (fun k h1 h2 => up_k (by omega)) (fun t h1 h2 => ua_t (by omega))
  obtain ⟨g0, g4, g5, g6, g7, g8, gc⟩ := h.1
  have e1 : up σ 0 0 (i + 3) (nI v) 1 = σ 1 := up_k (by decide)
  have ea : ∀ j, ua s.1 9 i 0 v 9 j 0 = if j = i then v else s.1 9 j 0 := fun j => by
    unfold ua
    by_cases q : j = i
    · rw [if_pos ⟨rfl, q, rfl⟩, if_pos q]
    · rw [if_neg (fun z => q z.2.1), if_neg q]
  have es : ∀ j, up σ 0 0 (i + 3) (nI v) 0 0 j = if j = i + 3 then nI v else σ 0 0 j := fun j => by
    rw [up_eq]
    by_cases q : j = i + 3
    · rw [if_pos ⟨rfl, rfl, q⟩, if_pos q]
    · rw [if_neg (fun z => q z.2.2), if_neg q]
  show up σ 0 0 (i + 3) (nI v) 0 0 0 = nI sl ∧ up σ 0 0 (i + 3) (nI v) 0 0 4 = nI (ua s.1 9 i 0 v 12 0 0) ∧ up σ 0 0 (i + 3) (nI v) 0 0 5 = nI (ua s.1 9 i 0 v 9 2 0) ∧ up σ 0 0 (i + 3) (nI v) 0 0 6 = nI (ua s.1 9 i 0 v 9 3 0) ∧ up σ 0 0 (i + 3) (nI v) 0 0 7 = nI (ua s.1 9 i 0 v 9 4 0) ∧ up σ 0 0 (i + 3) (nI v) 0 0 8 = nI (ua s.1 9 i 0 v 9 5 0) ∧ ∀ v', v' < w → up σ 0 0 (i + 3) (nI v) 1 0 v' = nI (ua s.1 9 i 0 v 0 v' 0)
  rw [e1, es, es, es, es, es, es, ea, ea, ea, ea, ua_t (t' := 12) (by decide), ua_t (t' := 0) (by decide)]
  rcases hi with rfl | rfl | rfl | rfl <;> simp [g0, g4, g5, g6, g7, g8] <;> exact gc
theorem CP_time {w sl ru : Nat} {s : Sp} {σ : Sg} {v : Nat} (h : CP w sl ru s σ) : CP w sl ru (ua s.1 12 0 0 v, s.2) (up σ 0 0 4 (nI v)) := by
  have e9' : ua s.1 12 0 0 v 9 = s.1 9 := ua_t (by decide)
  refine CP_to h ?_ (NtP_to h.2.1 (up_k (by decide)) (up_k (by decide)) rfl (congrFun (congrFun e9' 0) 0) (congrFun (congrFun e9' 1) 0)) (fun k h1 h2 => up_k (by omega)) (fun t h1 h2 => ua_t (by omega))
  obtain ⟨g0, g4, g5, g6, g7, g8, gc⟩ := h.1
  have e1 : up σ 0 0 4 (nI v) 1 = σ 1 := up_k (by decide)
  have e9 : ua s.1 12 0 0 v 9 = s.1 9 := ua_t (by decide)
  have e0 : ua s.1 12 0 0 v 0 = s.1 0 := ua_t (by decide)
  show up σ 0 0 4 (nI v) 0 0 0 = nI sl ∧ up σ 0 0 4 (nI v) 0 0 4 = nI (ua s.1 12 0 0 v 12 0 0) ∧ up σ 0 0 4 (nI v) 0 0 5 = nI (ua s.1 12 0 0 v 9 2 0) ∧ up σ 0 0 4 (nI v) 0 0 6 = nI (ua s.1 12 0 0 v 9 3 0) ∧ up σ 0 0 4 (nI v) 0 0 7 = nI (ua s.1 12 0 0 v 9 4 0) ∧ up σ 0 0 4 (nI v) 0 0 8 = nI (ua s.1 12 0 0 v 9 5 0) ∧ ∀ v', v' < w → up σ 0 0 4 (nI v) 1 0 v' = nI (ua s.1 12 0 0 v 0 v' 0)
  rw [e1, e9, e0, ua_at]
  exact ⟨by simp [up_eq, g0], by simp [up_eq], by simp [up_eq, g5], by simp [up_eq, g6], by simp [up_eq, g7], by simp [up_eq, g8], gc⟩
theorem CP_clk {w sl ru : Nat} {s : Sp} {σ : Sg} {u v : Nat} (h : CP w sl ru s σ) : CP w sl ru (ua s.1 0 u 0 v, s.2) (up σ 1 0 u (nI v)) := by
  have e9' : ua s.1 0 u 0 v 9 = s.1 9 := ua_t (by decide)
  refine CP_to h ?_ (NtP_to h.2.1 (up_k (by decide)) (up_k (by decide)) rfl (congrFun (congrFun e9' 0) 0) (congrFun (congrFun e9' 1) 0)) (fun k h1 h2 => up_k (by omega)) (fun t h1 h2 => ua_t (by omega))
  obtain ⟨g0, g4, g5, g6, g7, g8, gc⟩ := h.1
  have e1 : up σ 1 0 u (nI v) 0 = σ 0 := up_k (by decide)
  have e9 : ua s.1 0 u 0 v 9 = s.1 9 := ua_t (by decide)
  have e12 : ua s.1 0 u 0 v 12 = s.1 12 := ua_t (by decide)
  show up σ 1 0 u (nI v) 0 0 0 = nI sl ∧ up σ 1 0 u (nI v) 0 0 4 = nI (ua s.1 0 u 0 v 12 0 0) ∧ up σ 1 0 u (nI v) 0 0 5 = nI (ua s.1 0 u 0 v 9 2 0) ∧ up σ 1 0 u (nI v) 0 0 6 = nI (ua s.1 0 u 0 v 9 3 0) ∧ up σ 1 0 u (nI v) 0 0 7 = nI (ua s.1 0 u 0 v 9 4 0) ∧ up σ 1 0 u (nI v) 0 0 8 = nI (ua s.1 0 u 0 v 9 5 0) ∧ ∀ v', v' < w → up σ 1 0 u (nI v) 1 0 v' = nI (ua s.1 0 u 0 v 0 v' 0)
  rw [e1, e9, e12]
  refine ⟨g0, g4, g5, g6, g7, g8, fun v' hv' => ?_⟩
  rw [up_eq]
  unfold ua
  by_cases q : v' = u
  · rw [if_pos ⟨rfl, rfl, q⟩, if_pos ⟨rfl, q, rfl⟩]
  · rw [if_neg (fun z => q z.2.2), if_neg (fun z => q z.2.1)]
    exact gc v' hv'
theorem CP_conf {w sl ru : Nat} {s : Sp} {σ : Sg} {x n : Nat} (h : CP w sl ru s σ) : CP w sl ru (ua s.1 3 x 0 n, s.2) (up σ 11 x 8 (nI n)) := by
  obtain ⟨hG, hN, hL, hS, hU⟩ := h
  have hk : ∀ k, k ≠ 11 → up σ 11 x 8 (nI n) k = σ k := fun k hk => up_k hk
  have ht : ∀ t, t ≠ 3 → ua s.1 3 x 0 n t = s.1 t := fun t ht => ua_t ht
  have h3 : ∀ l', ua s.1 3 x 0 n 3 l' 0 = if l' = x then n else s.1 3 l' 0 := fun l' => by
    unfold ua
    by_cases q : l' = x
    · rw [if_pos ⟨rfl, q, rfl⟩, if_pos q]
    · rw [if_neg (fun z => q z.2.1), if_neg q]
  have h11 : ∀ l' j, up σ 11 x 8 (nI n) 11 l' j = if l' = x ∧ j = 8 then nI n else σ 11 l' j := fun l' j => by
    rw [up_eq]
    by_cases q : l' = x ∧ j = 8
    · rw [if_pos ⟨rfl, q⟩, if_pos q]
    · rw [if_neg (fun z => q z.2), if_neg q]
  generalize ua s.1 3 x 0 n = a' at *
  show GsP w sl (a', s.2) _ ∧ NtP (a', s.2) _ ∧ (∀ l, l < 3 * w → LkP a' _ l) ∧ (∀ h, h < 3 → ShP ru w a' _ h) ∧ ∀ h, h < 3 → a' 7 h 0 = 0 → ShU ru w a' _ h ∧ ∀ v, v < w → LkU w a' _ (3 * v + h)
  refine ⟨GsP_to hG (by rw [hk 0 (by decide)]) (by rw [hk 1 (by decide)]) (ht 0 (by decide)) (congrFun (congrFun (ht 12 (by decide)) 0) 0) (fun i _ => congrFun (congrFun (ht 9 (by decide)) i) 0), NtP_to hN (hk 3 (by decide)) (hk 4 (by decide)) rfl (congrFun (congrFun (ht 9 (by decide)) 0) 0) (congrFun (congrFun (ht 9 (by decide)) 1) 0), fun l' hl => ?_, fun h hh => ShP_to hh (hS h hh) (by rw [hk 5 (by decide)]) (by rw [hk 9 (by decide)]) (by rw [hk 10 (by decide)]) (by rw [ht 7 (by decide)]) (by rw [ht 8 (by decide)]) (fun v hv => ⟨by rw [ht 1 (by decide)], by rw [ht 4 (by decide)]⟩), fun h hh h7 => ?_⟩
  · obtain ⟨p1, p2, p3, p4, p5, p6, p7⟩ := hL l' hl
    refine ⟨by rw [h11, if_neg (by omega)]; exact p1, by rw [h11, if_neg (by omega)]; exact p2, by rw [h11, if_neg (by omega), ht 1 (by decide)]; exact p3, by rw [h11, if_neg (by omega), ht 2 (by decide)]; exact p4, ?_, by rw [hk 14 (by decide), ht 6 (by decide)]; exact p6, ?_⟩
    · rw [h11, h3]
      by_cases q : l' = x
      · rw [if_pos ⟨q, rfl⟩, if_pos q]
      · rw [if_neg (fun z => q z.1), if_neg q]
        exact p5
    · unfold RgP at *
      rw [hk 12 (by decide), hk 13 (by decide), ht 2 (by decide), ht 1 (by decide), ht 4 (by decide)]
      exact p7
  · rw [ht 7 (by decide)] at h7
    obtain ⟨u1, u2⟩ := hU h hh h7
    refine ⟨ShU_to hh u1 (by rw [hk 5 (by decide)]) (by rw [hk 7 (by decide)]) (by rw [hk 8 (by decide)]) (fun v hv => ⟨by rw [ht 1 (by decide)], by rw [ht 4 (by decide)], by rw [ht 5 (by decide)]⟩), fun v hv => ?_⟩
    obtain ⟨y1, y2, y3, y4⟩ := u2 v hv
    have et : trn a' (3 * v + h) = trn s.1 (3 * v + h) := trn_to (by rw [ht 1 (by decide)]) (by rw [ht 5 (by decide)])
    have ed : don w a' ((3 * v + h) % 3) = don w s.1 ((3 * v + h) % 3) := don_to (fun v _ => ⟨by rw [ht 1 (by decide)], by rw [ht 4 (by decide)], by rw [ht 5 (by decide)]⟩)
    have eb : ∀ c, bnd a' (3 * v + h) c = bnd s.1 (3 * v + h) c := fun c => bnd_to (by rw [ht 1 (by decide)]) (by rw [ht 4 (by decide)])
    exact ⟨by rw [h11, if_neg (by omega), et]; exact y1, by rw [h11, if_neg (by omega), et, ht 4 (by decide)]; exact y2, by rw [h11, if_neg (by omega), eb, ed]; exact y3, by rw [et, hk 15 (by decide), ht 1 (by decide), ht 5 (by decide)]; exact y4⟩
/-- what a message taken leaves, behind Link.take and Shard.applyEndedClocks -/
theorem CP_take {w sl ru N : Nat} {s : Sp} {σ τ : Sg} {v0 h n : Nat} (hC : CP w sl ru s σ) (hA : AI w N s) (hv0 : v0 < w) (hh : h < 3) (h7 : s.1 7 h 0 = 0) (hn : n < s.1 1 (3 * v0 + h) 0) (hne : s.1 5 (3 * v0 + h) n = 0)
    (hM : AppM ru w h (ua s.1 5 (3 * v0 + h) n 1) (stT σ (3 * v0 + h) n (trn (ua s.1 5 (3 * v0 + h) n 1) (3 * v0 + h)) (en (s.1 4 (3 * v0 + h)) (trn (ua s.1 5 (3 * v0 + h) n 1) (3 * v0 + h)))) (don w (ua s.1 5 (3 * v0 + h) n 1) h) 0 0 τ) : CP w sl ru (ua s.1 5 (3 * v0 + h) n 1, s.2) τ := by
  obtain ⟨hG, hN, hL, hS, hU⟩ := hC
  have hst := AI_stt hA hh h7 hv0
  obtain ⟨-, -, l3, l4, -⟩ := hA.2.2.1 (3 * v0 + h) (by omega)
  have ht : ∀ t, t ≠ 5 → ua s.1 5 (3 * v0 + h) n 1 t = s.1 t := fun t ht => ua_t ht
  have h5 : ∀ l' j, ua s.1 5 (3 * v0 + h) n 1 5 l' j = if l' = 3 * v0 + h ∧ j = n then 1 else s.1 5 l' j := fun l' j => by
    unfold ua
    by_cases q : l' = 3 * v0 + h ∧ j = n
    · rw [if_pos ⟨rfl, q⟩, if_pos q]
    · rw [if_neg (fun z => q z.2), if_neg q]
  generalize ha' : ua s.1 5 (3 * v0 + h) n 1 = a' at *
  have t1 := ht 1 (by decide)
  have t2 := ht 2 (by decide)
  have t3 := ht 3 (by decide)
  have t4 := ht 4 (by decide)
  have t6 := ht 6 (by decide)
  have t7 := ht 7 (by decide)
  have t8 := ht 8 (by decide)
  have hfr := hM.2.2.2
  -- rows that neither touched
  have hrow : ∀ k, k ≠ 5 → k ≠ 7 → k ≠ 8 → k ≠ 11 → k ≠ 15 → τ k = σ k := fun k k5 k7 k8 k11 k15 => by
    rw [AppM_row hM ⟨k5, k7, k8, k11⟩]
    unfold stT
    rw [up_k k11, up_k k11, up_k k15]
  have h11 : ∀ l' j, j < 9 → τ 11 l' j = σ 11 l' j := fun l' j hj => by
    rw [hfr 11 l' j (by omega) (by omega) (by omega) (by omega)]
    unfold stT
    rw [up_eq, if_neg (by omega), up_eq, if_neg (by omega), up_k (by decide)]
  have h11o : ∀ l' j, l' % 3 ≠ h → τ 11 l' j = σ 11 l' j := fun l' j hl => by
    rw [hfr 11 l' j (by omega) (by omega) (by omega) (by omega)]
    unfold stT
    rw [up_eq, if_neg (by omega), up_eq, if_neg (by omega), up_k (by decide)]
  have h15 : τ 15 = up σ 15 (3 * v0 + h) (n % 32) (nI 1) 15 := by rw [AppM_row hM (by decide), stT_15]
  have hro : ∀ k h', h' ≠ h → k = 5 ∨ k = 7 ∨ k = 8 → τ k h' = σ k h' := fun k h' hne' hk => by
    funext j
    rw [hfr k h' j (by omega) (by omega) (by omega) (by omega)]
    unfold stT
    rw [up_k (by omega), up_k (by omega), up_k (by omega)]
  have h5r : ∀ j, j ≠ 6 → τ 5 h j = σ 5 h j := fun j hj => by
    rw [hfr 5 h j (by omega) (by omega) (by omega) (by omega)]
    unfold stT
    rw [up_k (by omega), up_k (by omega), up_k (by omega)]
  show GsP w sl (a', s.2) _ ∧ NtP (a', s.2) _ ∧ (∀ l, l < 3 * w → LkP a' _ l) ∧ (∀ h, h < 3 → ShP ru w a' _ h) ∧ ∀ h, h < 3 → a' 7 h 0 = 0 → ShU ru w a' _ h ∧ ∀ v, v < w → LkU w a' _ (3 * v + h)
  refine ⟨GsP_to hG (by rw [hrow 0 (by decide) (by decide) (by decide) (by decide) (by decide)]) (by rw [hrow 1 (by decide) (by decide) (by decide) (by decide) (by decide)]) (ht 0 (by decide)) (congrFun (congrFun (ht 12 (by decide)) 0) 0) (fun i _ => congrFun (congrFun (ht 9 (by decide)) i) 0), NtP_to hN (hrow 3 (by decide) (by decide) (by decide) (by decide) (by decide)) (hrow 4 (by decide) (by decide) (by decide) (by decide) (by decide)) rfl (congrFun (congrFun (ht 9 (by decide)) 0) 0) (congrFun (congrFun (ht 9 (by decide)) 1) 0), fun l' hl => ?_, fun h' hh' => ?_, fun h' hh' h7' => ?_⟩
  · obtain ⟨p1, p2, p3, p4, p5, p6, p7⟩ := hL l' hl
    refine ⟨by rw [h11 _ _ (by decide)]; exact p1, by rw [h11 _ _ (by decide)]; exact p2, by rw [h11 _ _ (by decide), t1]; exact p3, by rw [h11 _ _ (by decide), t2]; exact p4, by rw [h11 _ _ (by decide), t3]; exact p5, by rw [hrow 14 (by decide) (by decide) (by decide) (by decide) (by decide), t6]; exact p6, ?_⟩
    unfold RgP at *
    rw [hrow 12 (by decide) (by decide) (by decide) (by decide) (by decide), hrow 13 (by decide) (by decide) (by decide) (by decide) (by decide), t1, t2, t4]
    exact p7
  · obtain ⟨p1, p2, p3, p4⟩ := hS h' hh'
    have r5 : ∀ j, j ≠ 6 → τ 5 h' j = σ 5 h' j := fun j hj => by
      by_cases q : h' = h
      · subst q; exact h5r j hj
      · rw [hro 5 h' q (Or.inl rfl)]
    refine ⟨by rw [r5 0 (by decide)]; exact p1, by rw [r5 7 (by decide), t8]; exact p2, by rw [r5 8 (by decide), t7]; exact p3, fun p hp => ?_⟩
    rw [hrow 9 (by decide) (by decide) (by decide) (by decide) (by decide), hrow 10 (by decide) (by decide) (by decide) (by decide) (by decide), t8, wko_to (a := s.1) (fun v hv => ⟨by rw [t1], by rw [t4]⟩)]
    exact p4 p hp
  · rw [t7] at h7'
    obtain ⟨u1, u2⟩ := hU h' hh' h7'
    by_cases q : h' = h
    · subst q
      refine ⟨⟨hM.1, fun p hp => ?_⟩, fun v hv => ?_⟩
      · have := hM.2.1 p hp
        rw [if_neg (Nat.not_lt_zero _)] at this
        exact this
      · have e3 : (3 * v + h') % 3 = h' := by omega
        obtain ⟨y1, y2, y3, y4⟩ := u2 v hv
        have hb := hM.2.2.1 v hv
        rw [if_neg (Nat.not_lt_zero _)] at hb
        by_cases e : v = v0
        · subst e
          refine ⟨?_, ?_, by rw [e3]; exact hb, fun j j1 j2 => ?_⟩
          · rw [hfr 11 (3 * v + h') 9 (by omega) (by omega) (by omega) (by omega)]
            simp [stT, up_eq]
          · rw [hfr 11 (3 * v + h') 10 (by omega) (by omega) (by omega) (by omega), t4]
            simp [stT, up_eq]
          · have hT : trn s.1 (3 * v + h') ≤ trn a' (3 * v + h') := by
              unfold trn
              rw [t1]
              exact tnF_mono (fun i hi => by rw [h5]; split; rfl; exact hi) _
            have hnt : trn s.1 (3 * v + h') ≤ n := Nat.not_lt.mp (fun z => by have := tnF_lt _ _ _ z; omega)
            rw [t1] at j2
            rw [h15, h5]
            by_cases ej : j = n
            · subst ej
              rw [if_pos ⟨rfl, rfl⟩]
              simp [up_eq]
            · rw [if_neg (fun z => ej z.2), up_eq, if_neg (by omega)]
              exact y4 j (by omega) j2
        · have hx : 3 * v + h' ≠ 3 * v0 + h' := by omega
          have et : trn a' (3 * v + h') = trn s.1 (3 * v + h') := trn_to (by rw [t1]) (by funext j; rw [h5, if_neg (fun z => hx z.1)])
          refine ⟨?_, ?_, by rw [e3]; exact hb, fun j j1 j2 => ?_⟩
          · rw [hfr 11 (3 * v + h') 9 (by omega) (by omega) (by omega) (by omega), et]
            unfold stT
            rw [up_eq, if_neg (by omega), up_eq, if_neg (by omega), up_k (by decide)]
            exact y1
          · rw [hfr 11 (3 * v + h') 10 (by omega) (by omega) (by omega) (by omega), et, t4]
            unfold stT
            rw [up_eq, if_neg (by omega), up_eq, if_neg (by omega), up_k (by decide)]
            exact y2
          · rw [et] at j1
            rw [t1] at j2
            rw [h15, h5, if_neg (fun z => hx z.1), up_kn (fun z => hx z.2)]
            exact y4 j j1 j2
    · have hra : ∀ v, v < w → a' 1 (3 * v + h') = s.1 1 (3 * v + h') ∧ a' 4 (3 * v + h') = s.1 4 (3 * v + h') ∧ a' 5 (3 * v + h') = s.1 5 (3 * v + h') := fun v hv => ⟨by rw [t1], by rw [t4], by funext j; rw [h5, if_neg (by omega)]⟩
      refine ⟨ShU_to hh' u1 (hro 5 h' q (Or.inl rfl)) (hro 7 h' q (Or.inr (Or.inl rfl))) (hro 8 h' q (Or.inr (Or.inr rfl))) hra, fun v hv => LkU_to (u2 v hv) (by funext j; exact h11o _ j (by omega)) (by rw [h15, up_kn (by omega)]) (by omega) (fun u hu => by rw [show (3 * v + h') % 3 = h' by omega]; exact hra u hu)⟩
