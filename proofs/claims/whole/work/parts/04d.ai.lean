/-! what holds of the pure state goes on holding -/
theorem AI_stt {w N : Nat} {s : Sp} (h : AI w N s) {k : Nat} (hk : k < 3) (h7 : s.1 7 k 0 = 0) {v : Nat} (hv : v < w) : s.1 2 (3 * v + k) 0 ≤ trn s.1 (3 * v + k) := by
  obtain ⟨-, -, hL, hH, -⟩ := h
  obtain ⟨-, -, -, -, -, -, -, -, e, -⟩ := hL (3 * v + k) (by omega)
  rw [show (3 * v + k) % 3 = k by omega] at e
  have hd := (hH k hk).2.2 h7
  have hd2 := don_le (h := k) s.1 hv
  rw [e]
  apply Nat.not_lt.mp
  intro q
  have := bnF_lt _ _ _ _ q
  omega
theorem AI_ck {w N : Nat} {s : Sp} (h : AI w N s) {k : Nat} (hk : k < 3) {v : Nat} (hv : v < w) : s.1 8 k 0 ≤ en (s.1 4 (3 * v + k)) (s.1 1 (3 * v + k) 0) := by
  obtain ⟨-, -, hL, -, -⟩ := h
  obtain ⟨-, -, -, -, -, -, -, -, -, e⟩ := hL (3 * v + k) (by omega)
  rw [show (3 * v + k) % 3 = k by omega] at e
  exact e
/-- what the invariant reads of the numbers -/
theorem AI_to {w N : Nat} {s s' : Sp} (h : AI w N s) (ha : ∀ t, t ≠ 9 → s'.1 t = s.1 t) (hp : s'.2.length ≤ 24) (hc : ∀ c, c ∈ s'.2 → c / 2 % 4 < w ∧ c / 8 % 4 < 3 ∧ c / 32 ≤ s.1 1 (lkc c) 0 ∧ (c % 2 = 0 → c / 32 < s.1 1 (lkc c) 0)) : AI w N s' := by
  obtain ⟨h1, h2, h3, h4, -⟩ := h
  have t0 := ha 0 (by decide)
  have t1 := ha 1 (by decide)
  have t2 := ha 2 (by decide)
  have t3 := ha 3 (by decide)
  have t4 := ha 4 (by decide)
  have t5 := ha 5 (by decide)
  have t6 := ha 6 (by decide)
  have t7 := ha 7 (by decide)
  have t8 := ha 8 (by decide)
  have t12 := ha 12 (by decide)
  refine ⟨⟨h1.1, h1.2.1, h1.2.2.1, hp, by rw [t12]; exact h1.2.2.2.2⟩, by rw [t0]; exact h2, fun l hl => ?_, fun k hk => ?_, fun c hcm => by rw [t1]; exact hc c hcm⟩
  · have hb : bnd s'.1 l (s'.1 8 (l % 3) 0) = bnd s.1 l (s.1 8 (l % 3) 0) := by rw [t8]; exact bnd_to (by rw [t1]) (by rw [t4])
    rw [hb, t1, t2, t3, t4, t5, t6, t8, t12]
    exact h3 l hl
  · have hd : don w s'.1 k = don w s.1 k := don_to (fun v _ => ⟨by rw [t1], by rw [t4], by rw [t5]⟩)
    rw [hd, t5, t7, t8]
    exact h4 k hk
theorem AI_snd {w N : Nat} {s : Sp} {c : Nat} (h : AI w N s) (hc : c / 2 % 4 < w ∧ c / 8 % 4 < 3 ∧ c / 32 ≤ s.1 1 (lkc c) 0 ∧ (c % 2 = 0 → c / 32 < s.1 1 (lkc c) 0)) : AI w N (snd s c) := by
  refine AI_to h (fun t ht => snd_t ht) ?_ ?_
  · unfold snd
    split
    next q => show (s.2 ++ [c]).length ≤ 24; rw [List.length_append]; simp; omega
    next q => exact h.1.2.2.2.1
  · intro d hd
    have hm : d ∈ s.2 ∨ d = c := by
      unfold snd at hd
      split at hd
      · rcases List.mem_append.mp hd with z | z
        · exact Or.inl z
        · exact Or.inr (by simpa using z)
      · exact Or.inl hd
    rcases hm with z | z
    · exact h.2.2.2.2 d z
    · rw [z]; exact hc
theorem cod_k {k l n : Nat} (hk : k < 2) (hl : l < 12) : cod k l n % 2 = k ∧ cod k l n / 2 % 4 = l / 3 ∧ cod k l n / 8 % 4 = l % 3 ∧ cod k l n / 32 = n ∧ lkc (cod k l n) = l := by
  have hq : l / 3 < 4 := by omega
  have hr : l % 3 < 3 := by omega
  have hl' : 3 * (l / 3) + l % 3 = l := by omega
  unfold lkc cod
  generalize l / 3 = q at *
  generalize l % 3 = r at *
  have e2 : (k + 2 * q + 8 * r + 32 * n) / 2 = q + 4 * r + 16 * n := by omega
  have e8 : (k + 2 * q + 8 * r + 32 * n) / 8 = r + 4 * n := by omega
  rw [e2, e8]
  have e3 : (q + 4 * r + 16 * n) % 4 = q := by omega
  have e4 : (r + 4 * n) % 4 = r := by omega
  rw [e3, e4]
  exact ⟨by omega, rfl, rfl, by omega, hl'⟩
theorem AI_more {w N : Nat} {s : Sp} (h : AI w N s) (hN : N + 1 ≤ 512) : AI w (N + 1) s := by
  obtain ⟨⟨a1, a2, a3, a4, a5⟩, h2, h3, h4, h5⟩ := h
  refine ⟨⟨a1, a2, hN, a4, by omega⟩, fun v hv => Nat.le_succ_of_le (h2 v hv), fun l hl => ?_, h4, h5⟩
  obtain ⟨b1, b2, b3, b4⟩ := h3 l hl
  exact ⟨b1, b2, Nat.le_succ_of_le b3, b4⟩
theorem app_facts {a a' : Ab} {l m : Nat} (e1 : a' 1 l 0 = a 1 l 0 + 1) (e4 : ∀ n, a' 4 l n = if n = a 1 l 0 then m else a 4 l n) (h5 : a' 5 = a 5) (ho : ∀ t l', l' ≠ l → t = 1 ∨ t = 4 → a' t l' = a t l') (h0 : a 5 l (a 1 l 0) = 0) :
    (∀ l', Grw a a' l') ∧ (∀ l', trn a' l' = trn a l') ∧ (∀ l' n, n ≤ a 1 l' 0 → en (a' 4 l') n = en (a 4 l') n) ∧ ∀ w h, don w a' h = don w a h := by
  have hgr : ∀ l', Grw a a' l' := fun l' => by
    by_cases hne : l' = l
    · subst hne
      exact ⟨by rw [e1]; omega, fun j hj => by rw [e4, if_neg (by omega)]⟩
    · exact ⟨by rw [ho 1 l' hne (Or.inl rfl)]; exact Nat.le_refl _, fun j hj => by rw [ho 4 l' hne (Or.inr rfl)]⟩
  have htr : ∀ l', trn a' l' = trn a l' := fun l' => by
    by_cases hne : l' = l
    · subst hne
      unfold trn
      rw [h5, e1]
      show (if tnF (a 5 l') (a 1 l' 0) = a 1 l' 0 ∧ a 5 l' (a 1 l' 0) = 1 then a 1 l' 0 + 1 else tnF (a 5 l') (a 1 l' 0)) = _
      rw [if_neg (fun z => by omega)]
    · exact trn_to (ho 1 l' hne (Or.inl rfl)) (by rw [h5])
  have hen : ∀ l' n, n ≤ a 1 l' 0 → en (a' 4 l') n = en (a 4 l') n := fun l' n hn => en_congr n (fun j hj => (hgr l').2 j (by omega))
  refine ⟨hgr, htr, hen, fun w h => minF_congr w (fun v hv => ?_)⟩
  show en (a' 4 (3 * v + h)) (trn a' (3 * v + h)) = en (a 4 (3 * v + h)) (trn a (3 * v + h))
  rw [htr, hen _ _ (trn_le a _)]
theorem AI_app {w N : Nat} {s : Sp} {l m : Nat} (h : AI w N s) (hl : l < 3 * w) (hN : s.1 1 l 0 < N) (hk : s.1 1 l 0 < s.1 2 l 0 + 24) (hm : okM l m) : AI w N (ua (ua (ua s.1 4 l (s.1 1 l 0) m) 6 l (s.1 1 l 0 % 32) (s.1 12 0 0)) 1 l 0 (s.1 1 l 0 + 1), s.2) := by
  obtain ⟨h1, h2, h3, h4, h5⟩ := h
  obtain ⟨a, pk⟩ := s
  dsimp only at *
  generalize ha' : ua (ua (ua a 4 l (a 1 l 0) m) 6 l (a 1 l 0 % 32) (a 12 0 0)) 1 l 0 (a 1 l 0 + 1) = a'
  have ht : ∀ t, t ≠ 4 → t ≠ 1 → t ≠ 6 → a' t = a t := fun t h4 h1 h6 => by rw [← ha', ua_t h1, ua_t h6, ua_t h4]
  have htl : ∀ t l', l' ≠ l → a' t l' = a t l' := fun t l' hne => by rw [← ha', ua_ti (fun z => hne z.2), ua_ti (fun z => hne z.2), ua_ti (fun z => hne z.2)]
  have e1 : a' 1 l 0 = a 1 l 0 + 1 := by rw [← ha']; exact ua_at _ _ _ _ _
  have e4 : ∀ n, a' 4 l n = if n = a 1 l 0 then m else a 4 l n := fun n => by
    rw [← ha', ua_t (by decide), ua_t (by decide)]
    unfold ua
    by_cases hn : n = a 1 l 0
    · rw [if_pos ⟨rfl, rfl, hn⟩, if_pos hn]
    · rw [if_neg (fun z => hn z.2.2), if_neg hn]
  have e6 : ∀ j, a' 6 l j = if j = a 1 l 0 % 32 then a 12 0 0 else a 6 l j := fun j => by
    rw [← ha', ua_t (by decide)]
    unfold ua
    by_cases hn : j = a 1 l 0 % 32
    · rw [if_pos ⟨rfl, rfl, hn⟩, if_pos hn]
    · rw [if_neg (fun z => hn z.2.2), if_neg hn, if_neg (fun z => by omega)]
  obtain ⟨l1, l2, l3, l4, l5, l6, l7, l8, l9, l10⟩ := h3 l hl
  obtain ⟨hgr, htr, hen, hdn⟩ := app_facts e1 e4 (ht 5 (by decide) (by decide) (by decide)) (fun t l' hne _ => htl t l' hne) (l8 _ (Nat.le_refl _))
  have t2 := ht 2 (by decide) (by decide) (by decide)
  have t3 := ht 3 (by decide) (by decide) (by decide)
  have t5 := ht 5 (by decide) (by decide) (by decide)
  have t7 := ht 7 (by decide) (by decide) (by decide)
  have t8 := ht 8 (by decide) (by decide) (by decide)
  have t12 := ht 12 (by decide) (by decide) (by decide)
  refine ⟨⟨h1.1, h1.2.1, h1.2.2.1, h1.2.2.2.1, by show a' 12 0 0 ≤ _; rw [t12]; exact h1.2.2.2.2⟩, fun v hv => by show a' 0 v 0 ≤ _; rw [ht 0 (by decide) (by decide) (by decide)]; exact h2 v hv, fun l' hl' => ?_, fun k hk' => ?_, fun c hc => ?_⟩
  · show a' 2 l' 0 ≤ a' 3 l' 0 ∧ a' 3 l' 0 ≤ a' 1 l' 0 ∧ a' 1 l' 0 ≤ N ∧ a' 1 l' 0 ≤ a' 2 l' 0 + 24 ∧ (∀ j, j < 32 → a' 6 l' j ≤ a' 12 0 0) ∧ (∀ n, n < a' 1 l' 0 → okM l' (a' 4 l' n)) ∧ (∀ n, a' 5 l' n ≤ 1) ∧ (∀ n, a' 1 l' 0 ≤ n → a' 5 l' n = 0) ∧ a' 2 l' 0 = bnd a' l' (a' 8 (l' % 3) 0) ∧ a' 8 (l' % 3) 0 ≤ en (a' 4 l') (a' 1 l' 0)
    by_cases hne : l' = l
    · subst hne
      rw [e1, t2, t3, t5, t8, t12, bnd_grow (hgr l') l10]
      refine ⟨l1, by omega, by omega, by omega, fun j hj => ?_, fun n hn => ?_, l7, fun n hn => l8 n (by omega), l9, ?_⟩
      · rw [e6]
        split
        · exact Nat.le_refl _
        · exact l5 j hj
      · rw [e4]
        split
        · exact hm
        · exact l6 n (by omega)
      · rw [← hen l' _ (Nat.le_refl _)] at l10
        exact Nat.le_trans l10 (en_mono _ (by omega))
    · have hb : bnd a' l' (a' 8 (l' % 3) 0) = bnd a l' (a 8 (l' % 3) 0) := by rw [t8]; exact bnd_to (htl 1 l' hne) (htl 4 l' hne)
      rw [hb, htl 1 l' hne, htl 2 l' hne, htl 3 l' hne, htl 4 l' hne, htl 5 l' hne, htl 6 l' hne, t8, t12]
      exact h3 l' hl'
  · show a' 7 k 0 ≤ 1 ∧ (a' 7 k 0 = 1 → ∀ v n, v < w → a' 5 (3 * v + k) n = 0) ∧ (a' 7 k 0 = 0 → a' 8 k 0 ≤ don w a' k)
    rw [t7, t5, t8, hdn]
    exact h4 k hk'
  · obtain ⟨c1, c2, c3, c4⟩ := h5 c hc
    refine ⟨c1, c2, Nat.le_trans c3 (hgr _).1, fun q => Nat.lt_of_lt_of_le (c4 q) (hgr _).1⟩
theorem AI_mkm {w N : Nat} {s : Sp} {l m : Nat} (h : AI w N s) (hl : l < 3 * w) (hN : s.1 1 l 0 < N) (hk : s.1 1 l 0 < s.1 2 l 0 + 24) (hm : okM l m) : AI w N (mkm s l m) := by
  have h1 := h.1
  obtain ⟨c1, c2, c3, c4, c5⟩ := cod_k (k := 0) (l := l) (n := s.1 1 l 0) (by decide) (by omega)
  refine AI_snd (AI_app h hl hN hk hm) ⟨by rw [c2]; omega, by rw [c3]; omega, ?_, fun _ => ?_⟩
  · rw [c4, c5]
    show _ ≤ ua _ 1 l 0 _ 1 l 0
    rw [ua_at]; omega
  · rw [c4, c5]
    show _ < ua _ 1 l 0 _ 1 l 0
    rw [ua_at]; omega
