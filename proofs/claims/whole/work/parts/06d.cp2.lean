/-! the class's picture and the invariant: kill, recover, checkpoint -/
theorem LkP_to5 {a a' : Ab} {σ τ : Sg} {l : Nat} (h : LkP a σ l) (h11 : τ 11 l = σ 11 l) (h12 : τ 12 l = σ 12 l) (h13 : τ 13 l = σ 13 l) (h14 : τ 14 l = σ 14 l) (a1 : a' 1 l = a 1 l) (a2 : a' 2 l = a 2 l) (a3 : a' 3 l = a 3 l) (a4 : a' 4 l = a 4 l) (a6 : a' 6 l = a 6 l) : LkP a' τ l := by
  unfold LkP RgP at *
  rw [h11, h12, h13, h14, a1, a2, a3, a4, a6]
  exact h
theorem CP_kll {w sl ru : Nat} {s : Sp} {σ τ : Sg} {h : Nat} (hC : CP w sl ru s σ) (hh : h < 3) (h31 : τ 3 0 1 = nI (s.2.filter (nth h)).length) (h4 : ∀ i c, (s.2.filter (nth h))[i]? = some c → τ 4 0 i = nI c) (h3 : ∀ j, j ≠ 1 → τ 3 0 j = up σ 5 h 8 (nI 0) 3 0 j) (hk0 : ∀ k, k ≠ 3 → k ≠ 4 → τ k = up σ 5 h 8 (nI 0) k) : CP w sl ru (kll w s h) τ := by
  obtain ⟨hG, hN, hL, hS, hU⟩ := hC
  unfold kll
  generalize ha' : tkB w (ua s.1 7 h 0 1) h (fun _ => 0) = a'
  have ht : ∀ t, t ≠ 5 → t ≠ 7 → a' t = s.1 t := fun t h5 h7 => by rw [← ha', tkB_t h5, ua_t h7]
  have e5n : ∀ l, l % 3 ≠ h → a' 5 l = s.1 5 l := fun l hl => by funext n; rw [← ha', tkB_ne hl, ua_t (by decide)]
  have e7 : a' 7 h 0 = 1 := by rw [← ha', tkB_t (by decide)]; exact ua_at _ _ _ _ _
  have e7n : ∀ k, k ≠ h → a' 7 k 0 = s.1 7 k 0 := fun k hk => by rw [← ha', tkB_t (by decide)]; exact ua_ne (fun z => hk z.2.1)
  have hk : ∀ k, k ≠ 3 → k ≠ 4 → k ≠ 5 → τ k = σ k := fun k k3 k4 k5 => by rw [hk0 k k3 k4, up_k k5]
  have h5 : ∀ h' j, τ 5 h' j = if h' = h ∧ j = 8 then nI 0 else σ 5 h' j := fun h' j => by
    rw [hk0 5 (by decide) (by decide), up_eq]
    by_cases q : h' = h ∧ j = 8
    · rw [if_pos ⟨rfl, q⟩, if_pos q]
    · rw [if_neg (fun z => q z.2), if_neg q]
  have t1 := ht 1 (by decide) (by decide)
  have t4 := ht 4 (by decide) (by decide)
  have t8 := ht 8 (by decide) (by decide)
  have h3' : ∀ j, j ≠ 1 → τ 3 0 j = σ 3 0 j := fun j hj => by rw [h3 j hj, up_k (by decide)]
  show GsP w sl (a', _) _ ∧ NtP (a', _) _ ∧ (∀ l, l < 3 * w → LkP a' _ l) ∧ (∀ h, h < 3 → ShP ru w a' _ h) ∧ ∀ h, h < 3 → a' 7 h 0 = 0 → ShU ru w a' _ h ∧ ∀ v, v < w → LkU w a' _ (3 * v + h)
  refine ⟨GsP_to hG (by rw [hk 0 (by decide) (by decide) (by decide)]) (by rw [hk 1 (by decide) (by decide) (by decide)]) (ht 0 (by decide) (by decide)) (congrFun (congrFun (ht 12 (by decide) (by decide)) 0) 0) (fun i _ => congrFun (congrFun (ht 9 (by decide) (by decide)) i) 0), ⟨h31, by rw [h3' 2 (by decide)]; show _ = nI (a' 9 0 0); rw [ht 9 (by decide) (by decide)]; exact hN.2.1, by rw [h3' 3 (by decide)]; show _ = nI (a' 9 1 0); rw [ht 9 (by decide) (by decide)]; exact hN.2.2.1, h4⟩, fun l' hl => LkP_to5 (hL l' hl) (by rw [hk 11 (by decide) (by decide) (by decide)]) (by rw [hk 12 (by decide) (by decide) (by decide)]) (by rw [hk 13 (by decide) (by decide) (by decide)]) (by rw [hk 14 (by decide) (by decide) (by decide)]) (by rw [t1]) (by rw [ht 2 (by decide) (by decide)]) (by rw [ht 3 (by decide) (by decide)]) (by rw [t4]) (by rw [ht 6 (by decide) (by decide)]), fun h' hh' => ?_, fun h' hh' h7' => ?_⟩
  · obtain ⟨p1, p2, p3, p4⟩ := hS h' hh'
    refine ⟨by rw [h5, if_neg (by omega)]; exact p1, by rw [h5, if_neg (by omega), t8]; exact p2, ?_, fun p hp => ?_⟩
    · rw [h5]
      by_cases q : h' = h
      · subst q; rw [if_pos ⟨rfl, rfl⟩, e7]
      · rw [if_neg (fun z => q z.1), e7n h' q]; exact p3
    · rw [hk 9 (by decide) (by decide) (by decide), hk 10 (by decide) (by decide) (by decide), t8, wko_to (a := s.1) (fun v hv => ⟨by rw [t1], by rw [t4]⟩)]
      exact p4 p hp
  · have q : h' ≠ h := fun z => by rw [z, e7] at h7'; cases h7'
    rw [e7n h' q] at h7'
    obtain ⟨u1, u2⟩ := hU h' hh' h7'
    have hra : ∀ v, v < w → a' 1 (3 * v + h') = s.1 1 (3 * v + h') ∧ a' 4 (3 * v + h') = s.1 4 (3 * v + h') ∧ a' 5 (3 * v + h') = s.1 5 (3 * v + h') := fun v hv => ⟨by rw [t1], by rw [t4], e5n _ (by omega)⟩
    exact ⟨ShU_to hh' u1 (by funext j; rw [h5, if_neg (fun z => q z.1)]) (by rw [hk 7 (by decide) (by decide) (by decide)]) (by rw [hk 8 (by decide) (by decide) (by decide)]) hra, fun v hv => LkU_to (u2 v hv) (by rw [hk 11 (by decide) (by decide) (by decide)]) (by rw [hk 15 (by decide) (by decide) (by decide)]) (by omega) (fun u hu => by rw [show (3 * v + h') % 3 = h' by omega]; exact hra u hu)⟩
theorem minF_const {F : Nat → Nat} {z c w : Nat} (hw : 1 ≤ w) (hz : c ≤ z) (h : ∀ v, v < w → F v = c) : minF F z w = c := by
  apply Nat.le_antisymm
  · have := minF_at F z w 0 (by omega)
    rw [h 0 (by omega)] at this
    exact this
  · exact minF_ge F z c hz w (fun v hv => by rw [h v hv]; exact Nat.le_refl _)
theorem rcv_eq (w : Nat) (s : Sp) (h t i j : Nat) : (rcv w s h).1 t i j = if t = 3 ∧ i % 3 = h ∧ i < 3 * w ∧ j = 0 then bnd s.1 i (s.1 8 h 0) else tkB w (ua (ua s.1 7 h 0 0) 9 5 0 (s.1 9 5 0 + 1)) h (fun l => bnd s.1 l (s.1 8 h 0)) t i j := rfl
/-- facts of a recovery -/
theorem rcv_facts {w N : Nat} {s : Sp} {h : Nat} (hA : AI w N s) (hh : h < 3) :
    (∀ t, t ≠ 3 → t ≠ 5 → t ≠ 7 → t ≠ 9 → (rcv w s h).1 t = s.1 t) ∧ (∀ v, v < w → (rcv w s h).1 3 (3 * v + h) 0 = s.1 2 (3 * v + h) 0) ∧ (∀ l j, l % 3 ≠ h → (rcv w s h).1 3 l j = s.1 3 l j) ∧
    (∀ v n, v < w → (rcv w s h).1 5 (3 * v + h) n = if n < s.1 2 (3 * v + h) 0 then 1 else 0) ∧ (∀ l, l % 3 ≠ h → (rcv w s h).1 5 l = s.1 5 l) ∧ (rcv w s h).1 7 h 0 = 0 ∧ (∀ k, k ≠ h → (rcv w s h).1 7 k 0 = s.1 7 k 0) ∧
    (∀ v, v < w → trn (rcv w s h).1 (3 * v + h) = s.1 2 (3 * v + h) 0) ∧ (∀ v, v < w → en (s.1 4 (3 * v + h)) (s.1 2 (3 * v + h) 0) = s.1 8 h 0) ∧ don w (rcv w s h).1 h = s.1 8 h 0 ∧ (rcv w s h).1 9 5 0 = s.1 9 5 0 + 1 ∧ (∀ i, i ≠ 5 → (rcv w s h).1 9 i 0 = s.1 9 i 0) := by
  have hb : ∀ v, v < w → bnd s.1 (3 * v + h) (s.1 8 h 0) = s.1 2 (3 * v + h) 0 := fun v hv => by
    have := (hA.2.2.1 (3 * v + h) (by omega)).2.2.2.2.2.2.2.2.1
    rw [show (3 * v + h) % 3 = h by omega] at this
    exact this.symm
  have f1 : ∀ t, t ≠ 3 → t ≠ 5 → t ≠ 7 → t ≠ 9 → (rcv w s h).1 t = s.1 t := fun t t3 t5 t7 t9 => by
    funext i j
    rw [rcv_eq]
    rw [if_neg (fun z => t3 z.1), tkB_t t5, ua_t t9, ua_t t7]
  have f3 : ∀ v, v < w → (rcv w s h).1 3 (3 * v + h) 0 = s.1 2 (3 * v + h) 0 := fun v hv => by
    rw [rcv_eq]
    rw [if_pos ⟨rfl, by omega, by omega, rfl⟩]
    exact hb v hv
  have f3n : ∀ l j, l % 3 ≠ h → (rcv w s h).1 3 l j = s.1 3 l j := fun l j hl => by
    rw [rcv_eq]
    rw [if_neg (fun z => hl z.2.1), tkB_t (by decide), ua_t (by decide), ua_t (by decide)]
  have f5 : ∀ v n, v < w → (rcv w s h).1 5 (3 * v + h) n = if n < s.1 2 (3 * v + h) 0 then 1 else 0 := fun v n hv => by
    rw [rcv_eq]
    rw [if_neg (fun z => absurd z.1 (by decide)), tkB_5 hv hh, hb v hv]
  have f5n : ∀ l, l % 3 ≠ h → (rcv w s h).1 5 l = s.1 5 l := fun l hl => by
    funext n
    rw [rcv_eq]
    rw [if_neg (fun z => absurd z.1 (by decide)), tkB_ne hl, ua_t (by decide), ua_t (by decide)]
  have f7 : (rcv w s h).1 7 h 0 = 0 := by
    rw [rcv_eq]
    rw [if_neg (fun z => absurd z.1 (by decide)), tkB_t (by decide), ua_t (by decide)]
    exact ua_at _ _ _ _ _
  have f7n : ∀ k, k ≠ h → (rcv w s h).1 7 k 0 = s.1 7 k 0 := fun k hk => by
    rw [rcv_eq]
    rw [if_neg (fun z => absurd z.1 (by decide)), tkB_t (by decide), ua_t (by decide)]
    exact ua_ne (fun z => hk z.2.1)
  have ft : ∀ v, v < w → trn (rcv w s h).1 (3 * v + h) = s.1 2 (3 * v + h) 0 := fun v hv => by
    obtain ⟨l1, l2, -⟩ := hA.2.2.1 (3 * v + h) (by omega)
    unfold trn
    rw [f1 1 (by decide) (by decide) (by decide) (by decide)]
    exact tnF_eq (by omega) (fun n hn => by rw [f5 v n hv, if_pos hn]) (fun _ => by rw [f5 v _ hv, if_neg (Nat.lt_irrefl _)]; decide)
  have fe : ∀ v, v < w → en (s.1 4 (3 * v + h)) (s.1 2 (3 * v + h) 0) = s.1 8 h 0 := fun v hv => by
    rw [← hb v hv]
    exact en_bnF (AI_ck hA hh hv)
  refine ⟨f1, f3, f3n, f5, f5n, f7, f7n, ft, fe, ?_, ?_, fun i hi => ?_⟩
  · have hw := hA.1.1
    have hck := AI_ck hA hh (v := 0) (by omega)
    have hmk := (hA.2.2.1 (3 * 0 + h) (by omega)).2.2.1
    have hN := hA.1.2.2.1
    have hel := en_le (s.1 4 (3 * 0 + h)) (s.1 1 (3 * 0 + h) 0)
    refine minF_const hw (by omega) (fun v hv => ?_)
    show en ((rcv w s h).1 4 (3 * v + h)) (trn (rcv w s h).1 (3 * v + h)) = _
    rw [f1 4 (by decide) (by decide) (by decide) (by decide), ft v hv]
    exact fe v hv
  · rw [rcv_eq]
    rw [if_neg (fun z => absurd z.1 (by decide)), tkB_t (by decide)]
    exact ua_at _ _ _ _ _
  · rw [rcv_eq]
    rw [if_neg (fun z => absurd z.1 (by decide)), tkB_t (by decide), ua_ne (fun z => hi z.2.1), ua_t (by decide)]
theorem CP_rcv {w sl ru N : Nat} {s : Sp} {σ τ0 : Sg} {h : Nat} (hC : CP w sl ru s σ) (hA : AI w N s) (hh : h < 3) (hM : GbI w h (fun v => s.1 2 (3 * v + h) 0) (s.1 8 h 0) σ w τ0) : CP w sl ru (rcv w s h) (up (up τ0 5 h 8 (nI 1)) 0 0 8 (nI (s.1 9 5 0 + 1))) := by
  obtain ⟨hG, hN, hL, hS, hU⟩ := hC
  obtain ⟨f1, f3, f3n, f5, f5n, f7, f7n, ft, fe, fd, f9, f9n⟩ := rcv_facts hA hh
  obtain ⟨m1, m2, m3, m4⟩ := hM
  generalize ha' : (rcv w s h).1 = a' at *
  have hp : (rcv w s h).2 = s.2 := rfl
  have hpair : rcv w s h = (a', s.2) := by rw [← ha', ← hp]
  rw [hpair]
  generalize hτ : up (up τ0 5 h 8 (nI 1)) 0 0 8 (nI (s.1 9 5 0 + 1)) = τ
  have t1 := f1 1 (by decide) (by decide) (by decide) (by decide)
  have t2 := f1 2 (by decide) (by decide) (by decide) (by decide)
  have t4 := f1 4 (by decide) (by decide) (by decide) (by decide)
  have t6 := f1 6 (by decide) (by decide) (by decide) (by decide)
  have t8 := f1 8 (by decide) (by decide) (by decide) (by decide)
  have hk : ∀ k, k ≠ 0 → k ≠ 5 → k ≠ 7 → k ≠ 8 → k ≠ 11 → k ≠ 15 → τ k = σ k := fun k k0 k5 k7 k8 k11 k15 => by
    funext n j
    rw [← hτ, up_k k0, up_k k5, m4 k n j (fun z => k7 z.1) (fun z => k8 z.1) (fun z => k5 z.1) (fun z => k11 z.1) (fun z => k15 z.1)]
  have hτ0 : ∀ k, k ≠ 0 → k ≠ 5 → τ k = τ0 k := fun k k0 k5 => by rw [← hτ, up_k k0, up_k k5]
  have h11 : ∀ l' j, j < 8 → τ 11 l' j = σ 11 l' j := fun l' j hj => by rw [hτ0 11 (by decide) (by decide), m4 11 l' j (by omega) (by omega) (by omega) (by omega) (by omega)]
  have h11o : ∀ l', l' % 3 ≠ h → τ 11 l' = σ 11 l' := fun l' hl => by funext j; rw [hτ0 11 (by decide) (by decide), m4 11 l' j (by omega) (by omega) (by omega) (by omega) (by omega)]
  have h15o : ∀ l', l' % 3 ≠ h → τ 15 l' = σ 15 l' := fun l' hl => by funext j; rw [hτ0 15 (by decide) (by decide), m4 15 l' j (by omega) (by omega) (by omega) (by omega) (by omega)]
  have h5o : ∀ h', h' ≠ h → ∀ k, k = 5 ∨ k = 7 ∨ k = 8 → τ k h' = σ k h' := fun h' hne k hk5 => by
    funext j
    rw [← hτ, up_k (by omega), up_kn (by omega), m4 k h' j (by omega) (by omega) (by omega) (by omega) (by omega)]
  have h5s : ∀ j, τ 5 h j = if j = 8 then nI 1 else if j = 6 then nI (s.1 8 h 0) else σ 5 h j := fun j => by
    rw [← hτ, up_k (by decide), up_eq]
    by_cases q : j = 8
    · rw [if_pos ⟨rfl, rfl, q⟩, if_pos q]
    · rw [if_neg (fun z => q z.2.2), if_neg q]
      by_cases q6 : j = 6
      · subst q6; rw [if_pos rfl]; exact m2
      · rw [if_neg q6]; exact m4 5 h j (by omega) (by omega) (by omega) (by omega) (by omega)
  have h0 : ∀ j, τ 0 0 j = if j = 8 then nI (s.1 9 5 0 + 1) else σ 0 0 j := fun j => by
    rw [← hτ, up_eq]
    by_cases q : j = 8
    · rw [if_pos ⟨rfl, rfl, q⟩, if_pos q]
    · rw [if_neg (fun z => q z.2.2), if_neg q, up_k (by decide), m4 0 0 j (by omega) (by omega) (by omega) (by omega) (by omega)]
  show GsP w sl (a', s.2) _ ∧ NtP (a', s.2) _ ∧ (∀ l, l < 3 * w → LkP a' _ l) ∧ (∀ h, h < 3 → ShP ru w a' _ h) ∧ ∀ h, h < 3 → a' 7 h 0 = 0 → ShU ru w a' _ h ∧ ∀ v, v < w → LkU w a' _ (3 * v + h)
  refine ⟨?_, ?_, fun l' hl => ?_, fun h' hh' => ?_, fun h' hh' h7' => ?_⟩
  · obtain ⟨g0, g4, g5, g6, g7, g8, gc⟩ := hG
    refine ⟨by rw [h0, if_neg (by decide)]; exact g0, ?_, ?_, ?_, ?_, ?_, fun v hv => ?_⟩
    · rw [h0, if_neg (by decide)]; show _ = nI (a' 12 0 0); rw [f1 12 (by decide) (by decide) (by decide) (by decide)]; exact g4
    · rw [h0, if_neg (by decide)]; show _ = nI (a' 9 2 0); rw [f9n 2 (by decide)]; exact g5
    · rw [h0, if_neg (by decide)]; show _ = nI (a' 9 3 0); rw [f9n 3 (by decide)]; exact g6
    · rw [h0, if_neg (by decide)]; show _ = nI (a' 9 4 0); rw [f9n 4 (by decide)]; exact g7
    · rw [h0, if_pos rfl]; show _ = nI (a' 9 5 0); rw [f9]
    · rw [hk 1 (by decide) (by decide) (by decide) (by decide) (by decide) (by decide)]; show _ = nI (a' 0 v 0); rw [f1 0 (by decide) (by decide) (by decide) (by decide)]; exact gc v hv
  · exact NtP_to hN (hk 3 (by decide) (by decide) (by decide) (by decide) (by decide) (by decide)) (hk 4 (by decide) (by decide) (by decide) (by decide) (by decide) (by decide)) rfl (f9n 0 (by decide)) (f9n 1 (by decide))
  · obtain ⟨p1, p2, p3, p4, p5, p6, p7⟩ := hL l' hl
    refine ⟨by rw [h11 _ _ (by decide)]; exact p1, by rw [h11 _ _ (by decide)]; exact p2, by rw [h11 _ _ (by decide), t1]; exact p3, by rw [h11 _ _ (by decide), t2]; exact p4, ?_, by rw [hk 14 (by decide) (by decide) (by decide) (by decide) (by decide) (by decide), t6]; exact p6, ?_⟩
    · by_cases q : l' % 3 = h
      · have e : 3 * (l' / 3) + h = l' := by omega
        have z3 := f3 (l' / 3) (by omega)
        have z8 : τ0 11 (3 * (l' / 3) + h) 8 = nI (s.1 2 (3 * (l' / 3) + h) 0) := (m3 (l' / 3) (by omega)).2.2.1
        rw [e] at z3 z8
        rw [hτ0 11 (by decide) (by decide), z3]
        exact z8
      · rw [h11o l' q, f3n l' 0 q]; exact p5
    · unfold RgP at *
      rw [hk 12 (by decide) (by decide) (by decide) (by decide) (by decide) (by decide), hk 13 (by decide) (by decide) (by decide) (by decide) (by decide) (by decide), t1, t2, t4]
      exact p7
  · obtain ⟨p1, p2, p3, p4⟩ := hS h' hh'
    have hsv : ∀ p, p < 2 → τ 9 h' p = (wko ru w a' (3 * p + h') (a' 8 h' 0)).1 ∧ τ 10 h' p = (wko ru w a' (3 * p + h') (a' 8 h' 0)).2 := fun p hp => by
      rw [hk 9 (by decide) (by decide) (by decide) (by decide) (by decide) (by decide), hk 10 (by decide) (by decide) (by decide) (by decide) (by decide) (by decide), t8, wko_to (a := s.1) (fun v hv => ⟨by rw [t1], by rw [t4]⟩)]
      exact p4 p hp
    by_cases q : h' = h
    · subst q
      exact ⟨by rw [h5s, if_neg (by decide), if_neg (by decide)]; exact p1, by rw [h5s, if_neg (by decide), if_neg (by decide), t8]; exact p2, by rw [h5s, if_pos rfl, f7], hsv⟩
    · have z5 := h5o h' q 5 (Or.inl rfl)
      exact ⟨by rw [z5]; exact p1, by rw [z5, t8]; exact p2, by rw [z5, f7n h' q]; exact p3, hsv⟩
  · by_cases q : h' = h
    · subst q
      refine ⟨⟨by rw [h5s, if_neg (by decide), if_pos rfl, fd], fun p hp => ?_⟩, fun v hv => ?_⟩
      · rw [fd, wko_to (a := s.1) (fun v hv => ⟨by rw [t1], by rw [t4]⟩), hτ0 7 (by decide) (by decide), hτ0 8 (by decide) (by decide), (m1 p hp).1, (m1 p hp).2]
        exact (hS h' hh').2.2.2 p hp
      · obtain ⟨z9, z11, z8, z10, z15⟩ := m3 v hv
        have e9 := (hA.2.2.1 (3 * v + h') (by omega)).2.2.2.2.2.2.2.2.1
        have e3 : (3 * v + h') % 3 = h' := by omega
        refine ⟨by rw [hτ0 11 (by decide) (by decide), ft v hv]; exact z9, by rw [hτ0 11 (by decide) (by decide), ft v hv, t4, fe v hv]; exact z10, ?_, fun n n1 n2 => ?_⟩
        · rw [hτ0 11 (by decide) (by decide), e3, fd, bnd_to (a := s.1) (by rw [t1]) (by rw [t4])]
          rw [e3] at e9
          rw [← e9]
          exact z11
        · rw [ft v hv] at n1
          rw [hτ0 15 (by decide) (by decide), z15 _ (Nat.mod_lt _ (by decide)), f5 v n hv, if_neg (by omega)]
    · rw [f7n h' q] at h7'
      obtain ⟨u1, u2⟩ := hU h' hh' h7'
      have hra : ∀ v, v < w → a' 1 (3 * v + h') = s.1 1 (3 * v + h') ∧ a' 4 (3 * v + h') = s.1 4 (3 * v + h') ∧ a' 5 (3 * v + h') = s.1 5 (3 * v + h') := fun v hv => ⟨by rw [t1], by rw [t4], f5n _ (by omega)⟩
      exact ⟨ShU_to hh' u1 (h5o h' q 5 (Or.inl rfl)) (h5o h' q 7 (Or.inr (Or.inl rfl))) (h5o h' q 8 (Or.inr (Or.inr rfl))) hra, fun v hv => LkU_to (u2 v hv) (h11o _ (by omega)) (h15o _ (by omega)) (by omega) (fun u hu => by rw [show (3 * v + h') % 3 = h' by omega]; exact hra u hu)⟩
theorem AI_rcv {w N : Nat} {s : Sp} {h : Nat} (hA : AI w N s) (hh : h < 3) : AI w N (rcv w s h) := by
  obtain ⟨f1, f3, f3n, f5, f5n, f7, f7n, ft, fe, fd, f9, f9n⟩ := rcv_facts hA hh
  obtain ⟨g1, g2, g3, g4, g5⟩ := hA
  generalize ha' : (rcv w s h).1 = a' at *
  have hpair : rcv w s h = (a', s.2) := by rw [← ha']; rfl
  rw [hpair]
  have t1 := f1 1 (by decide) (by decide) (by decide) (by decide)
  have t2 := f1 2 (by decide) (by decide) (by decide) (by decide)
  have t4 := f1 4 (by decide) (by decide) (by decide) (by decide)
  have t6 := f1 6 (by decide) (by decide) (by decide) (by decide)
  have t8 := f1 8 (by decide) (by decide) (by decide) (by decide)
  have t12 := f1 12 (by decide) (by decide) (by decide) (by decide)
  refine ⟨⟨g1.1, g1.2.1, g1.2.2.1, g1.2.2.2.1, by show a' 12 0 0 ≤ _; rw [t12]; exact g1.2.2.2.2⟩, fun v hv => by show a' 0 v 0 ≤ _; rw [f1 0 (by decide) (by decide) (by decide) (by decide)]; exact g2 v hv, fun l' hl' => ?_, fun k hk' => ?_, fun c hc => ?_⟩
  · show a' 2 l' 0 ≤ a' 3 l' 0 ∧ a' 3 l' 0 ≤ a' 1 l' 0 ∧ a' 1 l' 0 ≤ N ∧ a' 1 l' 0 ≤ a' 2 l' 0 + 24 ∧ (∀ j, j < 32 → a' 6 l' j ≤ a' 12 0 0) ∧ (∀ n, n < a' 1 l' 0 → okM l' (a' 4 l' n)) ∧ (∀ n, a' 5 l' n ≤ 1) ∧ (∀ n, a' 1 l' 0 ≤ n → a' 5 l' n = 0) ∧ a' 2 l' 0 = bnd a' l' (a' 8 (l' % 3) 0) ∧ a' 8 (l' % 3) 0 ≤ en (a' 4 l') (a' 1 l' 0)
    obtain ⟨l1, l2, l3, l4, l5, l6, l7, l8, lr⟩ := g3 l' hl'
    have hb : bnd a' l' (a' 8 (l' % 3) 0) = bnd s.1 l' (s.1 8 (l' % 3) 0) := by rw [t8]; exact bnd_to (by rw [t1]) (by rw [t4])
    have h35 : s.1 2 l' 0 ≤ a' 3 l' 0 ∧ a' 3 l' 0 ≤ s.1 1 l' 0 ∧ (∀ n, a' 5 l' n ≤ 1) ∧ ∀ n, s.1 1 l' 0 ≤ n → a' 5 l' n = 0 := by
      by_cases q : l' % 3 = h
      · have e : 3 * (l' / 3) + h = l' := by omega
        have z3 := f3 (l' / 3) (by omega)
        have z5 := fun n => f5 (l' / 3) n (by omega)
        rw [e] at z3 z5
        rw [z3]
        exact ⟨Nat.le_refl _, by omega, fun n => by rw [z5]; split <;> omega, fun n hn => by rw [z5, if_neg (by omega)]⟩
      · rw [f3n l' 0 q, f5n l' q]
        exact ⟨l1, l2, l7, l8⟩
    rw [hb, t1, t2, t4, t6, t8, t12]
    exact ⟨h35.1, h35.2.1, l3, l4, l5, l6, h35.2.2.1, h35.2.2.2, lr⟩
  · show a' 7 k 0 ≤ 1 ∧ (a' 7 k 0 = 1 → ∀ v n, v < w → a' 5 (3 * v + k) n = 0) ∧ (a' 7 k 0 = 0 → a' 8 k 0 ≤ don w a' k)
    by_cases q : k = h
    · subst q
      rw [f7, fd, t8]
      exact ⟨by omega, fun z => absurd z (by decide), fun _ => Nat.le_refl _⟩
    · have hd : don w a' k = don w s.1 k := don_to (fun v _ => ⟨by rw [t1], by rw [t4], f5n _ (by omega)⟩)
      rw [f7n k q, t8, hd]
      obtain ⟨k1, k2, k3⟩ := g4 k hk'
      exact ⟨k1, fun z v n hv => by rw [f5n _ (by omega)]; exact k2 z v n hv, k3⟩
  · show c / 2 % 4 < w ∧ c / 8 % 4 < 3 ∧ c / 32 ≤ a' 1 (lkc c) 0 ∧ (c % 2 = 0 → c / 32 < a' 1 (lkc c) 0)
    rw [t1]
    exact g5 c hc
/-- facts of a checkpoint -/
theorem ckp_eq (w : Nat) (s : Sp) (h t i j : Nat) : (ckp w s h).1 t i j = if t = 2 ∧ i % 3 = h ∧ i < 3 * w ∧ j = 0 then bnd s.1 i (don w s.1 h) else if t = 3 ∧ i % 3 = h ∧ i < 3 * w ∧ j = 0 then max (s.1 3 i 0) (bnd s.1 i (don w s.1 h)) else ua (ua s.1 8 h 0 (don w s.1 h)) 9 4 0 (s.1 9 4 0 + 1) t i j := rfl
theorem ckp_facts {w : Nat} {s : Sp} {h : Nat} (hh : h < 3) :
    (∀ t, t ≠ 2 → t ≠ 3 → t ≠ 8 → t ≠ 9 → (ckp w s h).1 t = s.1 t) ∧ (∀ v, v < w → (ckp w s h).1 2 (3 * v + h) 0 = bnd s.1 (3 * v + h) (don w s.1 h) ∧ (ckp w s h).1 3 (3 * v + h) 0 = max (s.1 3 (3 * v + h) 0) (bnd s.1 (3 * v + h) (don w s.1 h))) ∧
    (∀ l, l % 3 ≠ h → (ckp w s h).1 2 l = s.1 2 l ∧ (ckp w s h).1 3 l = s.1 3 l) ∧ (ckp w s h).1 8 h 0 = don w s.1 h ∧ (∀ k, k ≠ h → (ckp w s h).1 8 k 0 = s.1 8 k 0) ∧ (ckp w s h).1 9 4 0 = s.1 9 4 0 + 1 ∧ ∀ i, i ≠ 4 → (ckp w s h).1 9 i 0 = s.1 9 i 0 := by
  refine ⟨fun t t2 t3 t8 t9 => ?_, fun v hv => ⟨?_, ?_⟩, fun l hl => ⟨?_, ?_⟩, ?_, fun k hk => ?_, ?_, fun i hi => ?_⟩
  · funext i j
    rw [ckp_eq, if_neg (fun z => t2 z.1), if_neg (fun z => t3 z.1), ua_t t9, ua_t t8]
  · rw [ckp_eq, if_pos ⟨rfl, by omega, by omega, rfl⟩]
  · rw [ckp_eq, if_neg (fun z => absurd z.1 (by decide)), if_pos ⟨rfl, by omega, by omega, rfl⟩]
  · funext j
    rw [ckp_eq, if_neg (fun z => hl z.2.1), if_neg (fun z => hl z.2.1), ua_t (by decide), ua_t (by decide)]
  · funext j
    rw [ckp_eq, if_neg (fun z => hl z.2.1), if_neg (fun z => hl z.2.1), ua_t (by decide), ua_t (by decide)]
  · rw [ckp_eq, if_neg (fun z => absurd z.1 (by decide)), if_neg (fun z => absurd z.1 (by decide)), ua_t (by decide)]
    exact ua_at _ _ _ _ _
  · rw [ckp_eq, if_neg (fun z => absurd z.1 (by decide)), if_neg (fun z => absurd z.1 (by decide)), ua_t (by decide)]
    exact ua_ne (fun z => hk z.2.1)
  · rw [ckp_eq, if_neg (fun z => absurd z.1 (by decide)), if_neg (fun z => absurd z.1 (by decide))]
    exact ua_at _ _ _ _ _
  · rw [ckp_eq, if_neg (fun z => absurd z.1 (by decide)), if_neg (fun z => absurd z.1 (by decide)), ua_ne (fun z => hi z.2.1), ua_t (by decide)]
theorem bnd_mono {a : Ab} {l c d : Nat} (h1 : c ≤ d) (h2 : d ≤ en (a 4 l) (a 1 l 0)) : bnd a l c ≤ bnd a l d := by
  apply Nat.not_lt.mp
  intro q
  have q1 := bnF_lt _ _ _ _ q
  have q2 : en (a 4 l) (bnd a l d) = d := en_bnF h2
  omega
theorem CP_ckp {w sl ru N : Nat} {s : Sp} {σ τ : Sg} {h : Nat} (hC : CP w sl ru s σ) (hA : AI w N s) (hh : h < 3) (h70 : s.1 7 h 0 = 0) (hM : MkI w h (fun v => bnd s.1 (3 * v + h) (don w s.1 h)) (fun v => s.1 2 (3 * v + h) 0) (fun v => s.1 3 (3 * v + h) 0) (don w s.1 h) (up σ 0 0 7 (nI (s.1 9 4 0 + 1))) w τ) : CP w sl ru (ckp w s h) τ := by
  obtain ⟨hG, hN, hL, hS, hU⟩ := hC
  obtain ⟨f1, f23, f23n, f8, f8n, f9, f9n⟩ := ckp_facts (w := w) (s := s) hh
  obtain ⟨m1, m2, m3, m4⟩ := hM
  obtain ⟨⟨x6, x78⟩, xL⟩ := hU h hh h70
  generalize ha' : (ckp w s h).1 = a' at *
  have hpair : ckp w s h = (a', s.2) := by rw [← ha']; rfl
  rw [hpair]
  have t1 := f1 1 (by decide) (by decide) (by decide) (by decide)
  have t4 := f1 4 (by decide) (by decide) (by decide) (by decide)
  have t5 := f1 5 (by decide) (by decide) (by decide) (by decide)
  have t6 := f1 6 (by decide) (by decide) (by decide) (by decide)
  have t7 := f1 7 (by decide) (by decide) (by decide) (by decide)
  have hk : ∀ k, k ≠ 0 → k ≠ 5 → k ≠ 9 → k ≠ 10 → k ≠ 11 → τ k = σ k := fun k k0 k5 k9 k10 k11 => by
    funext n j
    rw [m4 k n j (fun z => k9 z.1) (fun z => k10 z.1) (fun z => k5 z.1) (fun z => k11 z.1), up_k k0]
  have h11 : ∀ l' j, j ≠ 7 → j ≠ 8 → τ 11 l' j = σ 11 l' j := fun l' j j7 j8 => by rw [m4 11 l' j (by omega) (by omega) (by omega) (by omega), up_k (by decide)]
  have h11o : ∀ l', l' % 3 ≠ h → τ 11 l' = σ 11 l' := fun l' hl => by funext j; rw [m4 11 l' j (by omega) (by omega) (by omega) (by omega), up_k (by decide)]
  have h5 : ∀ h' j, τ 5 h' j = if h' = h ∧ j = 7 then nI (don w s.1 h) else σ 5 h' j := fun h' j => by
    by_cases q : h' = h ∧ j = 7
    · rw [if_pos q, q.1, q.2]; exact m2
    · rw [if_neg q, m4 5 h' j (by omega) (by omega) (fun z => q z.2) (by omega), up_k (by decide)]
  have h0 : ∀ j, τ 0 0 j = if j = 7 then nI (s.1 9 4 0 + 1) else σ 0 0 j := fun j => by
    rw [m4 0 0 j (by omega) (by omega) (by omega) (by omega), up_eq]
    by_cases q : j = 7
    · rw [if_pos ⟨rfl, rfl, q⟩, if_pos q]
    · rw [if_neg (fun z => q z.2.2), if_neg q]
  have h7k : ∀ k h' p, k = 7 ∨ k = 8 → up σ 0 0 7 (nI (s.1 9 4 0 + 1)) k h' p = σ k h' p := fun k h' p hk => by rw [up_k (by omega)]
  have h9o : ∀ h', h' ≠ h → ∀ k, k = 9 ∨ k = 10 → τ k h' = σ k h' := fun h' hne k hk9 => by
    funext j
    rw [m4 k h' j (by omega) (by omega) (by omega) (by omega), up_k (by omega)]
  have hdn : ∀ h', don w a' h' = don w s.1 h' := fun h' => don_to (fun v _ => ⟨by rw [t1], by rw [t4], by rw [t5]⟩)
  have hwk : ∀ k c, wko ru w a' k c = wko ru w s.1 k c := fun k c => wko_to (fun v hv => ⟨by rw [t1], by rw [t4]⟩)
  show GsP w sl (a', s.2) _ ∧ NtP (a', s.2) _ ∧ (∀ l, l < 3 * w → LkP a' _ l) ∧ (∀ h, h < 3 → ShP ru w a' _ h) ∧ ∀ h, h < 3 → a' 7 h 0 = 0 → ShU ru w a' _ h ∧ ∀ v, v < w → LkU w a' _ (3 * v + h)
  refine ⟨?_, ?_, fun l' hl => ?_, fun h' hh' => ?_, fun h' hh' h7' => ?_⟩
  · obtain ⟨g0, g4, g5, g6, g7, g8, gc⟩ := hG
    refine ⟨by rw [h0, if_neg (by decide)]; exact g0, ?_, ?_, ?_, ?_, ?_, fun v hv => ?_⟩
    · rw [h0, if_neg (by decide)]; show _ = nI (a' 12 0 0); rw [f1 12 (by decide) (by decide) (by decide) (by decide)]; exact g4
    · rw [h0, if_neg (by decide)]; show _ = nI (a' 9 2 0); rw [f9n 2 (by decide)]; exact g5
    · rw [h0, if_neg (by decide)]; show _ = nI (a' 9 3 0); rw [f9n 3 (by decide)]; exact g6
    · rw [h0, if_pos rfl]; show _ = nI (a' 9 4 0); rw [f9]
    · rw [h0, if_neg (by decide)]; show _ = nI (a' 9 5 0); rw [f9n 5 (by decide)]; exact g8
    · rw [hk 1 (by decide) (by decide) (by decide) (by decide) (by decide)]; show _ = nI (a' 0 v 0); rw [f1 0 (by decide) (by decide) (by decide) (by decide)]; exact gc v hv
  · exact NtP_to hN (hk 3 (by decide) (by decide) (by decide) (by decide) (by decide)) (hk 4 (by decide) (by decide) (by decide) (by decide) (by decide)) rfl (f9n 0 (by decide)) (f9n 1 (by decide))
  · obtain ⟨p1, p2, p3, p4, p5, p6, p7⟩ := hL l' hl
    by_cases q : l' % 3 = h
    · have e : 3 * (l' / 3) + h = l' := by omega
      have hv : l' / 3 < w := by omega
      have z := m3 (l' / 3) hv
      rw [if_pos hv, if_pos hv] at z
      have y := f23 (l' / 3) hv
      have hb : s.1 2 l' 0 ≤ bnd s.1 l' (don w s.1 h) := by
        have e9 := (hA.2.2.1 l' hl).2.2.2.2.2.2.2.2.1
        rw [q] at e9
        rw [e9]
        have hd := don_ends (h := h) s.1 hv
        rw [e] at hd
        exact bnd_mono ((hA.2.2.2.1 h hh).2.2 h70) hd
      have z1 : τ 11 (3 * (l' / 3) + h) 7 = nI (bnd s.1 (3 * (l' / 3) + h) (don w s.1 h)) := z.1
      have z2 : τ 11 (3 * (l' / 3) + h) 8 = nI (max (s.1 3 (3 * (l' / 3) + h) 0) (bnd s.1 (3 * (l' / 3) + h) (don w s.1 h))) := z.2
      rw [e] at z1 z2 y
      refine ⟨by rw [h11 _ _ (by decide) (by decide)]; exact p1, by rw [h11 _ _ (by decide) (by decide)]; exact p2, by rw [h11 _ _ (by decide) (by decide), t1]; exact p3, by rw [y.1]; exact z1, by rw [y.2]; exact z2, by rw [hk 14 (by decide) (by decide) (by decide) (by decide) (by decide), t6]; exact p6, ?_⟩
      intro n n1 n2
      rw [y.1] at n1
      rw [t1] at n2
      rw [hk 12 (by decide) (by decide) (by decide) (by decide) (by decide), hk 13 (by decide) (by decide) (by decide) (by decide) (by decide), t4]
      exact p7 n (by omega) n2
    · exact LkP_to5 (hL l' hl) (h11o l' q) (by rw [hk 12 (by decide) (by decide) (by decide) (by decide) (by decide)]) (by rw [hk 13 (by decide) (by decide) (by decide) (by decide) (by decide)]) (by rw [hk 14 (by decide) (by decide) (by decide) (by decide) (by decide)]) (by rw [t1]) (f23n l' q).1 (f23n l' q).2 (by rw [t4]) (by rw [t6])
  · obtain ⟨p1, p2, p3, p4⟩ := hS h' hh'
    by_cases q : h' = h
    · subst q
      refine ⟨by rw [h5, if_neg (by omega)]; exact p1, by rw [h5, if_pos ⟨rfl, rfl⟩, f8], by rw [h5, if_neg (by omega), t7]; exact p3, fun p hp => ?_⟩
      have z := m1 p hp
      rw [h7k 7 _ _ (Or.inl rfl), h7k 8 _ _ (Or.inr rfl)] at z
      rw [z.1, z.2, f8, hwk]
      exact x78 p hp
    · refine ⟨by rw [h5, if_neg (by omega)]; exact p1, by rw [h5, if_neg (by omega), f8n h' q]; exact p2, by rw [h5, if_neg (by omega), t7]; exact p3, fun p hp => ?_⟩
      rw [h9o h' q 9 (Or.inl rfl), h9o h' q 10 (Or.inr rfl), f8n h' q, hwk]
      exact p4 p hp
  · rw [t7] at h7'
    obtain ⟨⟨u1, u1b⟩, u2⟩ := hU h' hh' h7'
    refine ⟨⟨by rw [h5, if_neg (by omega), hdn]; exact u1, fun p hp => ?_⟩, fun v hv => ?_⟩
    · rw [hk 7 (by decide) (by decide) (by decide) (by decide) (by decide), hk 8 (by decide) (by decide) (by decide) (by decide) (by decide), hdn, hwk]
      exact u1b p hp
    · obtain ⟨y1, y2, y3, y4⟩ := u2 v hv
      have et : trn a' (3 * v + h') = trn s.1 (3 * v + h') := trn_to (by rw [t1]) (by rw [t5])
      exact ⟨by rw [h11 _ _ (by decide) (by decide), et]; exact y1, by rw [h11 _ _ (by decide) (by decide), et, t4]; exact y2, by rw [h11 _ _ (by decide) (by decide), hdn, bnd_to (a := s.1) (by rw [t1]) (by rw [t4])]; exact y3, by rw [et, hk 15 (by decide) (by decide) (by decide) (by decide) (by decide), t1, t5]; exact y4⟩
theorem AI_ckp {w N : Nat} {s : Sp} {h : Nat} (hA : AI w N s) (hh : h < 3) (h70 : s.1 7 h 0 = 0) : AI w N (ckp w s h) := by
  obtain ⟨f1, f23, f23n, f8, f8n, f9, f9n⟩ := ckp_facts (w := w) (s := s) hh
  obtain ⟨g1, g2, g3, g4, g5⟩ := hA
  generalize ha' : (ckp w s h).1 = a' at *
  have hpair : ckp w s h = (a', s.2) := by rw [← ha']; rfl
  rw [hpair]
  have t1 := f1 1 (by decide) (by decide) (by decide) (by decide)
  have t4 := f1 4 (by decide) (by decide) (by decide) (by decide)
  have t5 := f1 5 (by decide) (by decide) (by decide) (by decide)
  have t6 := f1 6 (by decide) (by decide) (by decide) (by decide)
  have t7 := f1 7 (by decide) (by decide) (by decide) (by decide)
  have t12 := f1 12 (by decide) (by decide) (by decide) (by decide)
  have hdn : ∀ h', don w a' h' = don w s.1 h' := fun h' => don_to (fun v _ => ⟨by rw [t1], by rw [t4], by rw [t5]⟩)
  refine ⟨⟨g1.1, g1.2.1, g1.2.2.1, g1.2.2.2.1, by show a' 12 0 0 ≤ _; rw [t12]; exact g1.2.2.2.2⟩, fun v hv => by show a' 0 v 0 ≤ _; rw [f1 0 (by decide) (by decide) (by decide) (by decide)]; exact g2 v hv, fun l' hl' => ?_, fun k hk' => ?_, fun c hc => ?_⟩
  · show a' 2 l' 0 ≤ a' 3 l' 0 ∧ a' 3 l' 0 ≤ a' 1 l' 0 ∧ a' 1 l' 0 ≤ N ∧ a' 1 l' 0 ≤ a' 2 l' 0 + 24 ∧ (∀ j, j < 32 → a' 6 l' j ≤ a' 12 0 0) ∧ (∀ n, n < a' 1 l' 0 → okM l' (a' 4 l' n)) ∧ (∀ n, a' 5 l' n ≤ 1) ∧ (∀ n, a' 1 l' 0 ≤ n → a' 5 l' n = 0) ∧ a' 2 l' 0 = bnd a' l' (a' 8 (l' % 3) 0) ∧ a' 8 (l' % 3) 0 ≤ en (a' 4 l') (a' 1 l' 0)
    obtain ⟨l1, l2, l3, l4, l5, l6, l7, l8, l9, l10⟩ := g3 l' hl'
    rw [t1, t4, t5, t6, t12, bnd_to (a := s.1) (by rw [t1]) (by rw [t4])]
    by_cases q : l' % 3 = h
    · have e : 3 * (l' / 3) + h = l' := by omega
      have hv : l' / 3 < w := by omega
      have y := f23 (l' / 3) hv
      have hd := don_ends (h := h) s.1 hv
      rw [e] at y hd
      rw [q] at l9
      have hm := bnd_mono ((g4 h hh).2.2 h70) hd
      have hbl : bnd s.1 l' (don w s.1 h) ≤ s.1 1 l' 0 := bnF_le _ _ _
      rw [q, f8, y.1, y.2]
      exact ⟨Nat.le_max_right _ _, Nat.max_le.mpr ⟨l2, hbl⟩, l3, by omega, l5, l6, l7, l8, rfl, hd⟩
    · rw [(f23n l' q).1, (f23n l' q).2, f8n _ q]
      exact ⟨l1, l2, l3, l4, l5, l6, l7, l8, l9, l10⟩
  · show a' 7 k 0 ≤ 1 ∧ (a' 7 k 0 = 1 → ∀ v n, v < w → a' 5 (3 * v + k) n = 0) ∧ (a' 7 k 0 = 0 → a' 8 k 0 ≤ don w a' k)
    rw [t7, t5, hdn]
    by_cases q : k = h
    · subst q
      rw [f8]
      exact ⟨(g4 k hk').1, (g4 k hk').2.1, fun _ => Nat.le_refl _⟩
    · rw [f8n k q]
      exact g4 k hk'
  · show c / 2 % 4 < w ∧ c / 8 % 4 < 3 ∧ c / 32 ≤ a' 1 (lkc c) 0 ∧ (c % 2 = 0 → c / 32 < a' 1 (lkc c) 0)
    rw [t1]
    exact g5 c hc
