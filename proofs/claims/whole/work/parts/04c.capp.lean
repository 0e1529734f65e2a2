/-! the class's picture: a sending noted, a message made -/
theorem CP_sent {w sl ru : Nat} {s : Sp} {σ : Sg} {l j v : Nat} (h : CP w sl ru s σ) : CP w sl ru (ua s.1 6 l j v, s.2) (up σ 14 l j (nI v)) := by
  obtain ⟨hG, hN, hL, hS, hU⟩ := h
  have hk : ∀ k, k ≠ 14 → up σ 14 l j (nI v) k = σ k := fun k hk => up_k hk
  have ht : ∀ t, t ≠ 6 → ua s.1 6 l j v t = s.1 t := fun t ht => ua_t ht
  have h6 : ∀ l' j', ua s.1 6 l j v 6 l' j' = if l' = l ∧ j' = j then v else s.1 6 l' j' := fun l' j' => by
    unfold ua
    by_cases q : l' = l ∧ j' = j
    · rw [if_pos ⟨rfl, q⟩, if_pos q]
    · rw [if_neg (fun z => q z.2), if_neg q]
  generalize ua s.1 6 l j v = a' at *
  show GsP w sl (a', s.2) _ ∧ NtP (a', s.2) _ ∧ (∀ l, l < 3 * w → LkP a' _ l) ∧ (∀ h, h < 3 → ShP ru w a' _ h) ∧ ∀ h, h < 3 → a' 7 h 0 = 0 → ShU ru w a' _ h ∧ ∀ v, v < w → LkU w a' _ (3 * v + h)
  refine ⟨GsP_to hG (by rw [hk 0 (by decide)]) (by rw [hk 1 (by decide)]) (ht 0 (by decide)) (congrFun (congrFun (ht 12 (by decide)) 0) 0) (fun i _ => congrFun (congrFun (ht 9 (by decide)) i) 0), ?_, fun l' hl => ?_, fun h hh => ShP_to hh (hS h hh) (by rw [hk 5 (by decide)]) (by rw [hk 9 (by decide)]) (by rw [hk 10 (by decide)]) (by rw [ht 7 (by decide)]) (by rw [ht 8 (by decide)]) (fun v hv => ⟨by rw [ht 1 (by decide)], by rw [ht 4 (by decide)]⟩), fun h hh h7 => ?_⟩
  · obtain ⟨n1, n2, n3, n4⟩ := hN
    refine ⟨by rw [hk 3 (by decide)]; exact n1, by rw [hk 3 (by decide)]; show _ = nI (a' 9 0 0); rw [ht 9 (by decide)]; exact n2, by rw [hk 3 (by decide)]; show _ = nI (a' 9 1 0); rw [ht 9 (by decide)]; exact n3, fun i c hc => by rw [hk 4 (by decide)]; exact n4 i c hc⟩
  · obtain ⟨p1, p2, p3, p4, p5, p6, p7⟩ := hL l' hl
    refine ⟨by rw [hk 11 (by decide)]; exact p1, by rw [hk 11 (by decide)]; exact p2, by rw [hk 11 (by decide), ht 1 (by decide)]; exact p3, by rw [hk 11 (by decide), ht 2 (by decide)]; exact p4, by rw [hk 11 (by decide), ht 3 (by decide)]; exact p5, fun j' hj' => ?_, ?_⟩
    · rw [up_eq, h6]
      by_cases q : l' = l ∧ j' = j
      · rw [if_pos ⟨rfl, q⟩, if_pos q]
      · rw [if_neg (fun z => q z.2), if_neg q]
        exact p6 j' hj'
    · unfold RgP at *
      rw [hk 12 (by decide), hk 13 (by decide), ht 2 (by decide), ht 1 (by decide), ht 4 (by decide)]
      exact p7
  · rw [ht 7 (by decide)] at h7
    obtain ⟨u1, u2⟩ := hU h hh h7
    exact ⟨ShU_to hh u1 (by rw [hk 5 (by decide)]) (by rw [hk 7 (by decide)]) (by rw [hk 8 (by decide)]) (fun v hv => ⟨by rw [ht 1 (by decide)], by rw [ht 4 (by decide)], by rw [ht 5 (by decide)]⟩), fun v hv => LkU_to (u2 v hv) (by rw [hk 11 (by decide)]) (by rw [hk 15 (by decide)]) (by omega) (fun v hv => ⟨by rw [ht 1 (by decide)], by rw [ht 4 (by decide)], by rw [ht 5 (by decide)]⟩)⟩
/-- a message m made: p, q what the ring holds of it -/
theorem CP_app {w sl ru : Nat} {s : Sp} {σ : Sg} {l m : Nat} {p q : Int32} (h : CP w sl ru s σ) (hl : l < 3 * w) (hr : s.1 1 l 0 < s.1 2 l 0 + 32) (h0 : s.1 5 l (s.1 1 l 0) = 0) (hst : ∀ h, h < 3 → s.1 7 h 0 = 0 → ∀ v, v < w → s.1 2 (3 * v + h) 0 ≤ trn s.1 (3 * v + h)) (hck : ∀ h, h < 3 → ∀ v, v < w → s.1 8 h 0 ≤ en (s.1 4 (3 * v + h)) (s.1 1 (3 * v + h) 0))
    (hm : (m = END → p = -1) ∧ (m ≠ END → p = nI (m / 1000 / 3) ∧ q = nI (m % 1000) - nI 100)) : CP w sl ru (ua (ua s.1 4 l (s.1 1 l 0) m) 1 l 0 (s.1 1 l 0 + 1), s.2) (apC σ l (s.1 1 l 0) p q) := by
  obtain ⟨hG, hN, hL, hS, hU⟩ := h
  obtain ⟨a, pk⟩ := s
  have hL : ∀ l, l < 3 * w → LkP a σ l := hL
  have hS : ∀ h, h < 3 → ShP ru w a σ h := hS
  have hU : ∀ h, h < 3 → a 7 h 0 = 0 → ShU ru w a σ h ∧ ∀ v, v < w → LkU w a σ (3 * v + h) := hU
  have hr : a 1 l 0 < a 2 l 0 + 32 := hr
  have h0 : a 5 l (a 1 l 0) = 0 := h0
  have hst : ∀ h, h < 3 → a 7 h 0 = 0 → ∀ v, v < w → a 2 (3 * v + h) 0 ≤ trn a (3 * v + h) := hst
  have hck : ∀ h, h < 3 → ∀ v, v < w → a 8 h 0 ≤ en (a 4 (3 * v + h)) (a 1 (3 * v + h) 0) := hck
  show CP w sl ru (ua (ua a 4 l (a 1 l 0) m) 1 l 0 (a 1 l 0 + 1), pk) (apC σ l (a 1 l 0) p q)
  generalize hmk : a 1 l 0 = mk at hr h0 ⊢
  generalize ha' : ua (ua a 4 l mk m) 1 l 0 (mk + 1) = a'
  have hk : ∀ k, k ≠ 11 → k ≠ 12 → k ≠ 13 → k ≠ 15 → apC σ l mk p q k = σ k := fun k h1 h2 h3 h4 => by unfold apC; rw [up_k h1, up_k h4, up_k h3, up_k h2]
  have hkl : ∀ k l', l' ≠ l → apC σ l mk p q k l' = σ k l' := fun k l' hne => by
    unfold apC
    rw [up_kn (fun z => hne z.2), up_kn (fun z => hne z.2), up_kn (fun z => hne z.2), up_kn (fun z => hne z.2)]
  have ht : ∀ t, t ≠ 4 → t ≠ 1 → a' t = a t := fun t h4 h1 => by rw [← ha', ua_t h1, ua_t h4]
  have htl : ∀ t l', l' ≠ l → a' t l' = a t l' := fun t l' hne => by rw [← ha', ua_ti (fun z => hne z.2), ua_ti (fun z => hne z.2)]
  have e1 : a' 1 l 0 = mk + 1 := by rw [← ha']; exact ua_at _ _ _ _ _
  have e4 : ∀ n, a' 4 l n = if n = mk then m else a 4 l n := fun n => by
    rw [← ha', ua_t (by decide)]
    unfold ua
    by_cases hn : n = mk
    · rw [if_pos ⟨rfl, rfl, hn⟩, if_pos hn]
    · rw [if_neg (fun z => hn z.2.2), if_neg hn]
  have hgr : ∀ l', Grw a a' l' := fun l' => by
    by_cases hne : l' = l
    · subst hne
      exact ⟨by rw [e1, hmk]; omega, fun j hj => by rw [e4, if_neg (by omega)]⟩
    · exact ⟨by rw [htl 1 l' hne]; exact Nat.le_refl _, fun j hj => by rw [htl 4 l' hne]⟩
  have htr : ∀ l', trn a' l' = trn a l' := fun l' => by
    by_cases hne : l' = l
    · subst hne
      unfold trn
      rw [ht 5 (by decide) (by decide), e1, hmk]
      show (if tnF (a 5 l') mk = mk ∧ a 5 l' mk = 1 then mk + 1 else tnF (a 5 l') mk) = _
      rw [if_neg (fun z => by omega)]
    · exact trn_to (htl 1 l' hne) (htl 5 l' hne)
  have hen : ∀ l' n, n ≤ a 1 l' 0 → en (a' 4 l') n = en (a 4 l') n := fun l' n hn => en_congr n (fun j hj => (hgr l').2 j (by omega))
  have hdn : ∀ h, don w a' h = don w a h := fun h => minF_congr w (fun v hv => by
    show en (a' 4 (3 * v + h)) (trn a' (3 * v + h)) = en (a 4 (3 * v + h)) (trn a (3 * v + h))
    rw [htr, hen _ _ (trn_le a _)])
  have hwk : ∀ k c, (∀ v, v < w → c ≤ en (a 4 (3 * v + k % 3)) (a 1 (3 * v + k % 3) 0)) → wko ru w a' k c = wko ru w a k c := fun k c hc => wko_eq (fun v hv => hgr _) hc
  show GsP w sl (a', pk) _ ∧ NtP (a', pk) _ ∧ (∀ l, l < 3 * w → LkP a' _ l) ∧ (∀ h, h < 3 → ShP ru w a' _ h) ∧ ∀ h, h < 3 → a' 7 h 0 = 0 → ShU ru w a' _ h ∧ ∀ v, v < w → LkU w a' _ (3 * v + h)
  refine ⟨GsP_to hG (by rw [hk 0 (by decide) (by decide) (by decide) (by decide)]) (by rw [hk 1 (by decide) (by decide) (by decide) (by decide)]) (ht 0 (by decide) (by decide)) (congrFun (congrFun (ht 12 (by decide) (by decide)) 0) 0) (fun i _ => congrFun (congrFun (ht 9 (by decide) (by decide)) i) 0), ?_, fun l' hl' => ?_, fun h hh => ?_, fun h hh h7 => ?_⟩
  · obtain ⟨n1, n2, n3, n4⟩ := hN
    have n2 : σ 3 0 2 = nI (a 9 0 0) := n2
    have n3 : σ 3 0 3 = nI (a 9 1 0) := n3
    refine ⟨by rw [hk 3 (by decide) (by decide) (by decide) (by decide)]; exact n1, by rw [hk 3 (by decide) (by decide) (by decide) (by decide)]; show _ = nI (a' 9 0 0); rw [ht 9 (by decide) (by decide)]; exact n2, by rw [hk 3 (by decide) (by decide) (by decide) (by decide)]; show _ = nI (a' 9 1 0); rw [ht 9 (by decide) (by decide)]; exact n3, fun i c hc => by rw [hk 4 (by decide) (by decide) (by decide) (by decide)]; exact n4 i c hc⟩
  · by_cases hne : l' = l
    · subst hne
      obtain ⟨p1, p2, p3, p4, p5, p6, p7⟩ := hL l' hl'
      have r11 : ∀ j, j ≠ 6 → apC σ l' mk p q 11 l' j = σ 11 l' j := fun j hj => by unfold apC; simp [up_eq, hj]
      refine ⟨by rw [r11 0 (by decide)]; exact p1, by rw [r11 1 (by decide)]; exact p2, ?_, by rw [r11 7 (by decide), ht 2 (by decide) (by decide)]; exact p4, by rw [r11 8 (by decide), ht 3 (by decide) (by decide)]; exact p5, fun j hj => by rw [hk 14 (by decide) (by decide) (by decide) (by decide), ht 6 (by decide) (by decide)]; exact p6 j hj, ?_⟩
      · rw [e1]; unfold apC; simp [up_eq]
      · intro n h1 h2
        rw [ht 2 (by decide) (by decide)] at h1
        rw [e1] at h2
        rw [e4]
        by_cases hn : n = mk
        · subst hn
          rw [if_pos rfl]
          have q12 : apC σ l' n p q 12 l' (n % 32) = p := by unfold apC; simp [up_eq]
          have q13 : apC σ l' n p q 13 l' (n % 32) = q := by unfold apC; simp [up_eq]
          rw [q12, q13]
          exact hm
        · rw [if_neg hn]
          have hs : n % 32 ≠ mk % 32 := by omega
          have q12 : apC σ l' mk p q 12 l' (n % 32) = σ 12 l' (n % 32) := by unfold apC; simp [up_eq, hs]
          have q13 : apC σ l' mk p q 13 l' (n % 32) = σ 13 l' (n % 32) := by unfold apC; simp [up_eq, hs]
          rw [q12, q13]
          exact p7 n h1 (by rw [hmk]; omega)
    · exact LkP_to (hL l' hl') (hkl 11 l' hne) (hkl 12 l' hne) (hkl 13 l' hne) (hkl 14 l' hne) (fun t _ _ => htl t l' hne)
  · obtain ⟨p1, p2, p3, p4⟩ := hS h hh
    refine ⟨by rw [hk 5 (by decide) (by decide) (by decide) (by decide)]; exact p1, by rw [hk 5 (by decide) (by decide) (by decide) (by decide), ht 8 (by decide) (by decide)]; exact p2, by rw [hk 5 (by decide) (by decide) (by decide) (by decide), ht 7 (by decide) (by decide)]; exact p3, fun p' hp' => ?_⟩
    have e : (3 * p' + h) % 3 = h := by omega
    rw [hk 9 (by decide) (by decide) (by decide) (by decide), hk 10 (by decide) (by decide) (by decide) (by decide), ht 8 (by decide) (by decide), hwk (3 * p' + h) (a 8 h 0) (fun v hv => by rw [e]; exact hck h hh v hv)]
    exact p4 p' hp'
  · rw [ht 7 (by decide) (by decide)] at h7
    obtain ⟨⟨u1, u2⟩, u3⟩ := hU h hh h7
    refine ⟨⟨by rw [hk 5 (by decide) (by decide) (by decide) (by decide), hdn]; exact u1, fun p' hp' => ?_⟩, fun v hv => ?_⟩
    · have e : (3 * p' + h) % 3 = h := by omega
      rw [hk 7 (by decide) (by decide) (by decide) (by decide), hk 8 (by decide) (by decide) (by decide) (by decide), hdn, hwk (3 * p' + h) (don w a h) (fun v hv => by rw [e]; exact don_ends a hv)]
      exact u2 p' hp'
    · have e : (3 * v + h) % 3 = h := by omega
      have hs1 := hst h hh h7 v hv
      obtain ⟨x1, x2, x3, x4⟩ := u3 v hv
      have hb : bnd a' (3 * v + h) (don w a' ((3 * v + h) % 3)) = bnd a (3 * v + h) (don w a ((3 * v + h) % 3)) := by
        rw [hdn, e]
        exact bnd_grow (hgr _) (don_ends a hv)
      have hrow : ∀ j, j ≠ 6 → apC σ l mk p q 11 (3 * v + h) j = σ 11 (3 * v + h) j := fun j hj => by
        unfold apC
        rw [up_eq, if_neg (fun z => hj z.2.2), up_k (by decide), up_k (by decide), up_k (by decide)]
      refine ⟨by rw [hrow 9 (by decide), htr]; exact x1, by rw [hrow 10 (by decide), htr, hen _ _ (trn_le a _)]; exact x2, by rw [hrow 11 (by decide), hb]; exact x3, fun n h1 h2 => ?_⟩
      rw [htr] at h1
      rw [ht 5 (by decide) (by decide)]
      by_cases hne : 3 * v + h = l
      · rw [hne] at h1 h2 x4 hs1 ⊢
        rw [e1] at h2
        by_cases hn : n = mk
        · subst hn
          rw [h0]
          unfold apC
          simp [up_eq]
        · have hs : n % 32 ≠ mk % 32 := by omega
          have q15 : apC σ l mk p q 15 l (n % 32) = σ 15 l (n % 32) := by unfold apC; simp [up_eq, hs]
          rw [q15]
          exact x4 n h1 (by rw [hmk]; omega)
      · rw [hkl 15 _ hne]
        rw [htl 1 _ hne] at h2
        exact x4 n h1 h2
