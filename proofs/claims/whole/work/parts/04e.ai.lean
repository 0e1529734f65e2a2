theorem tnF_mono {f f' : Nat → Nat} (h : ∀ n, f n = 1 → f' n = 1) (m : Nat) : tnF f m ≤ tnF f' m := by
  apply Nat.not_lt.mp
  intro q
  have h1 := tnF_le f m
  exact tnF_stop f' m (by omega) (h _ (tnF_lt f m _ q))
theorem minF_mono {F F' : Nat → Nat} {z : Nat} : ∀ w, (∀ v, v < w → F v ≤ F' v) → minF F z w ≤ minF F' z w
  | 0, _ => Nat.le_refl _
  | w + 1, h => by
    have h1 := minF_mono (F := F) (F' := F') (z := z) w (fun v hv => h v (by omega))
    have h2 := h w (by omega)
    unfold minF
    omega
theorem AI_rm {w N : Nat} {s : Sp} (h : AI w N s) (j : Nat) : AI w N (s.1, s.2.eraseIdx j) :=
  AI_to h (fun _ _ => rfl) (Nat.le_trans (List.length_eraseIdx_le _ _) h.1.2.2.2.1) (fun c hc => h.2.2.2.2 c (List.mem_of_mem_eraseIdx hc))
theorem AI_ct {w N : Nat} {s : Sp} (h : AI w N s) (i v : Nat) : AI w N (ua s.1 9 i 0 v, s.2) :=
  AI_to h (fun t ht => ua_t ht) h.1.2.2.2.1 h.2.2.2.2
theorem AI_cf {w N : Nat} {s : Sp} {l n : Nat} (h : AI w N s) (hl : l < 3 * w) (h1 : s.1 3 l 0 ≤ n) (h2 : n ≤ s.1 1 l 0) : AI w N (ua s.1 3 l 0 n, s.2) := by
  obtain ⟨g1, g2, g3, g4, g5⟩ := h
  have ht : ∀ t, t ≠ 3 → ua s.1 3 l 0 n t = s.1 t := fun t ht => ua_t ht
  generalize ha' : ua s.1 3 l 0 n = a' at *
  have t1 := ht 1 (by decide)
  have t2 := ht 2 (by decide)
  have t4 := ht 4 (by decide)
  have t5 := ht 5 (by decide)
  have t6 := ht 6 (by decide)
  have t7 := ht 7 (by decide)
  have t8 := ht 8 (by decide)
  have t12 := ht 12 (by decide)
  refine ⟨⟨g1.1, g1.2.1, g1.2.2.1, g1.2.2.2.1, by show a' 12 0 0 ≤ _; rw [t12]; exact g1.2.2.2.2⟩, fun v hv => by show a' 0 v 0 ≤ _; rw [ht 0 (by decide)]; exact g2 v hv, fun l' hl' => ?_, fun k hk' => ?_, fun c hc => ?_⟩
  · show a' 2 l' 0 ≤ a' 3 l' 0 ∧ a' 3 l' 0 ≤ a' 1 l' 0 ∧ a' 1 l' 0 ≤ N ∧ a' 1 l' 0 ≤ a' 2 l' 0 + 24 ∧ (∀ j, j < 32 → a' 6 l' j ≤ a' 12 0 0) ∧ (∀ n, n < a' 1 l' 0 → okM l' (a' 4 l' n)) ∧ (∀ n, a' 5 l' n ≤ 1) ∧ (∀ n, a' 1 l' 0 ≤ n → a' 5 l' n = 0) ∧ a' 2 l' 0 = bnd a' l' (a' 8 (l' % 3) 0) ∧ a' 8 (l' % 3) 0 ≤ en (a' 4 l') (a' 1 l' 0)
    obtain ⟨l1, l2, lr⟩ := g3 l' hl'
    have hb : bnd a' l' (a' 8 (l' % 3) 0) = bnd s.1 l' (s.1 8 (l' % 3) 0) := by rw [t8]; exact bnd_to (by rw [t1]) (by rw [t4])
    have h3 : s.1 2 l' 0 ≤ a' 3 l' 0 ∧ a' 3 l' 0 ≤ s.1 1 l' 0 := by
      rw [← ha']
      unfold ua
      by_cases q : l' = l
      · subst q
        rw [if_pos ⟨rfl, rfl, rfl⟩]
        omega
      · rw [if_neg (fun z => q z.2.1)]
        exact ⟨l1, l2⟩
    rw [hb, t1, t2, t4, t5, t6, t8, t12]
    exact ⟨h3.1, h3.2, lr⟩
  · show a' 7 k 0 ≤ 1 ∧ (a' 7 k 0 = 1 → ∀ v n, v < w → a' 5 (3 * v + k) n = 0) ∧ (a' 7 k 0 = 0 → a' 8 k 0 ≤ don w a' k)
    have hd : don w a' k = don w s.1 k := don_to (fun v _ => ⟨by rw [t1], by rw [t4], by rw [t5]⟩)
    rw [t7, t5, t8, hd]
    exact g4 k hk'
  · show c / 2 % 4 < w ∧ c / 8 % 4 < 3 ∧ c / 32 ≤ a' 1 (lkc c) 0 ∧ (c % 2 = 0 → c / 32 < a' 1 (lkc c) 0)
    rw [t1]
    exact g5 c hc
theorem AI_tk {w N : Nat} {s : Sp} {l n : Nat} (h : AI w N s) (hl : l < 3 * w) (h1 : n < s.1 1 l 0) (h7 : s.1 7 (l % 3) 0 = 0) : AI w N (ua s.1 5 l n 1, s.2) := by
  obtain ⟨g1, g2, g3, g4, g5⟩ := h
  have ht : ∀ t, t ≠ 5 → ua s.1 5 l n 1 t = s.1 t := fun t ht => ua_t ht
  have h5 : ∀ l' j, ua s.1 5 l n 1 5 l' j = if l' = l ∧ j = n then 1 else s.1 5 l' j := fun l' j => by
    unfold ua
    by_cases q : l' = l ∧ j = n
    · rw [if_pos ⟨rfl, q⟩, if_pos q]
    · rw [if_neg (fun z => q z.2), if_neg q]
  generalize ha' : ua s.1 5 l n 1 = a' at *
  have t1 := ht 1 (by decide)
  have t2 := ht 2 (by decide)
  have t3 := ht 3 (by decide)
  have t4 := ht 4 (by decide)
  have t6 := ht 6 (by decide)
  have t7 := ht 7 (by decide)
  have t8 := ht 8 (by decide)
  have t12 := ht 12 (by decide)
  refine ⟨⟨g1.1, g1.2.1, g1.2.2.1, g1.2.2.2.1, by show a' 12 0 0 ≤ _; rw [t12]; exact g1.2.2.2.2⟩, fun v hv => by show a' 0 v 0 ≤ _; rw [ht 0 (by decide)]; exact g2 v hv, fun l' hl' => ?_, fun k hk' => ?_, fun c hc => ?_⟩
  · show a' 2 l' 0 ≤ a' 3 l' 0 ∧ a' 3 l' 0 ≤ a' 1 l' 0 ∧ a' 1 l' 0 ≤ N ∧ a' 1 l' 0 ≤ a' 2 l' 0 + 24 ∧ (∀ j, j < 32 → a' 6 l' j ≤ a' 12 0 0) ∧ (∀ n, n < a' 1 l' 0 → okM l' (a' 4 l' n)) ∧ (∀ n, a' 5 l' n ≤ 1) ∧ (∀ n, a' 1 l' 0 ≤ n → a' 5 l' n = 0) ∧ a' 2 l' 0 = bnd a' l' (a' 8 (l' % 3) 0) ∧ a' 8 (l' % 3) 0 ≤ en (a' 4 l') (a' 1 l' 0)
    obtain ⟨l1, l2, l3, l4, l5, l6, l7, l8, l9, l10⟩ := g3 l' hl'
    have hb : bnd a' l' (a' 8 (l' % 3) 0) = bnd s.1 l' (s.1 8 (l' % 3) 0) := by rw [t8]; exact bnd_to (by rw [t1]) (by rw [t4])
    rw [hb, t1, t2, t3, t4, t6, t8, t12]
    refine ⟨l1, l2, l3, l4, l5, l6, fun j => ?_, fun j hj => ?_, l9, l10⟩
    · rw [h5]
      split
      · exact Nat.le_refl _
      · exact l7 j
    · rw [h5, if_neg (fun z => by rw [z.1] at hj; omega)]
      exact l8 j hj
  · show a' 7 k 0 ≤ 1 ∧ (a' 7 k 0 = 1 → ∀ v n, v < w → a' 5 (3 * v + k) n = 0) ∧ (a' 7 k 0 = 0 → a' 8 k 0 ≤ don w a' k)
    obtain ⟨k1, k2, k3⟩ := g4 k hk'
    rw [t7, t8]
    refine ⟨k1, fun q v j hv => ?_, fun q => Nat.le_trans (k3 q) ?_⟩
    · rw [h5, if_neg (fun z => ?_)]
      · exact k2 q v j hv
      · have : l % 3 = k := by omega
        rw [this] at h7
        omega
    · unfold don
      refine minF_mono w (fun v hv => ?_)
      show en (s.1 4 (3 * v + k)) (trn s.1 (3 * v + k)) ≤ en (a' 4 (3 * v + k)) (trn a' (3 * v + k))
      rw [t4]
      refine en_mono _ ?_
      unfold trn
      rw [t1]
      exact tnF_mono (fun j hj => by rw [h5]; split; rfl; exact hj) _
  · show c / 2 % 4 < w ∧ c / 8 % 4 < 3 ∧ c / 32 ≤ a' 1 (lkc c) 0 ∧ (c % 2 = 0 → c / 32 < a' 1 (lkc c) 0)
    rw [t1]
    exact g5 c hc
