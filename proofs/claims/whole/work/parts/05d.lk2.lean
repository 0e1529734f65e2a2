/-! Link's loops -/
def stT (σ : Sg) (x n i e : Nat) : Sg := up (up (up σ 15 x (n % 32) (nI 1)) 11 x 9 (nI i)) 11 x 10 (nI e)
theorem stT_15 (σ : Sg) (x n i e : Nat) : stT σ x n i e 15 = up σ 15 x (n % 32) (nI 1) 15 := by unfold stT; rw [up_k (by decide), up_k (by decide)]
theorem stT_12 (σ : Sg) (x n i e : Nat) : stT σ x n i e 12 = σ 12 := by unfold stT; rw [up_k (by decide), up_k (by decide), up_k (by decide)]
theorem stT_t (σ : Sg) (x n i e i' : Nat) : up (stT σ x n i e) 11 x 9 (nI i') = stT σ x n i' e := by
  unfold stT
  rw [up_comm _ _ _ (fun z => absurd z.2.2 (by decide)), up_same]
theorem stT_e (σ : Sg) (x n i e i' e' : Nat) : up (up (stT σ x n i e) 11 x 10 (nI e')) 11 x 9 (nI i') = stT σ x n i' e' := by
  unfold stT
  rw [up_same, up_comm _ _ _ (fun z => absurd z.2.2 (by decide)), up_same]
section Lk2
variable {l : Launch} {g : Gc} {σ : Sg} {x : Nat}
theorem c_Lk_take (hg : Gok g) (hx : x < 3 * g.2.1) {mk tn e n T : Nat} {f t : Nat → Nat} (h6 : σ 11 x 6 = nI mk) (h9 : σ 11 x 9 = nI tn) (h10 : σ 11 x 10 = nI e) (hmk : mk < 2 ^ 20) (hn2 : n < mk)
    (hp : ∀ j, tn ≤ j → j < mk → (f j = END → σ 12 x (j % 32) = -1) ∧ (f j ≠ END → ∃ p, p < 2 ∧ σ 12 x (j % 32) = nI p)) (ht : ∀ j, tn ≤ j → j < mk → up σ 15 x (n % 32) (nI 1) 15 x (j % 32) = nI (t j)) (ht1 : ∀ j, t j ≤ 1)
    (hT1 : tn ≤ T) (hT2 : T ≤ mk) (hT3 : ∀ j, tn ≤ j → j < T → t j = 1) (hT4 : T < mk → t T = 0) : CV l g y_Lk_take 1 [.ref (g.1 11 x), .int (nI n)] σ (stT σ x n T (e + (en f T - en f tn))) := by
  have m32 : ∀ j, j % 32 < 32 := fun j => Nat.mod_lt _ (by decide)
  have r9 : ∀ i e, stT σ x n i e 11 x 9 = nI i := fun i e => by simp [stT, up_eq]
  have r6 : ∀ i e, stT σ x n i e 11 x 6 = nI mk := fun i e => by simp [stT, up_eq, h6]
  have r10 : ∀ i e, stT σ x n i e 11 x 10 = nI e := fun i e => by simp [stT, up_eq]
  have r15 : ∀ i e j, tn ≤ j → j < mk → stT σ x n i e 15 x (j % 32) = nI (t j) := fun i e j h1 h2 => by rw [stT_15]; exact ht j h1 h2
  have r12 : ∀ i e j, stT σ x n i e 12 x j = σ 12 x j := fun i e j => by rw [stT_12]
  refine ofK hg w_cd_Lk_take (by decide) (by decide) (by first | decide | simp) (by simp [Value.category]) ?_
  intro K hK hR
  have hK : Gd l g "GradientShards$Link" b_Lk_take 2 _ K := hK
  have hloop : ∀ d i, i + d = T → tn ≤ i → K 10 [.ref (g.1 11 x), .int (nI n)] [] (stT σ x n i (e + (en f i - en f tn))) := by
    intro d
    induction d with
    | zero =>
      intro i hi hti
      obtain rfl : i = T := by omega
      have hti1 := ht1 i
      refine r_aload_n hK d_Lk_take_10 rfl rfl ?_
      refine r_getI hK d_Lk_take_11 f_Lk_45 rfl (in_lk rfl (by assumption)) rfl rfl (r9 _ _) ?_
      refine r_aload_n hK d_Lk_take_14 rfl rfl ?_
      refine r_getI hK d_Lk_take_15 f_Lk_32 rfl (in_lk rfl (by assumption)) rfl rfl (r6 _ _) ?_
      refine rn_icmp_ge (tgt := 75) hK d_Lk_take_18 (by decide) (by first | omega | (split <;> omega)) (by first | omega | (split <;> omega)) (fun q1 => ?_) (fun q1 => ?_)
      · exact hR.v d_Lk_take_75 (⟨rfl, rfl⟩)
      · refine r_aload_n hK d_Lk_take_21 rfl rfl ?_
        refine r_getR hK d_Lk_take_22 f_Lk_21 rfl (in_lk rfl (by assumption)) rfl rfl ?_
        refine r_aload_n hK d_Lk_take_25 rfl rfl ?_
        refine r_getI hK d_Lk_take_26 f_Lk_45 rfl (in_lk rfl (by assumption)) rfl rfl (r9 _ _) ?_
        refine r_callSI hK d_Lk_take_29 m_Lk_41 (c_Lk_slotOf hg (n := i) (by omega)) (by decide) rfl rfl rfl ?_
        refine r_zald hK d_Lk_take_32 rfl rfl (in_lk rfl (by assumption)) (ix_nI (j := i % 32) (by have := m32 i; omega)) (m32 i) (r15 _ _ i hti (by omega)) ?_
        refine rn_if_eq (tgt := 75) hK d_Lk_take_33 (by decide) (by first | omega | (split <;> omega)) (fun _ => ?_) (fun hno => absurd hno (by have := hT4 (by omega); omega))
        exact hR.v d_Lk_take_75 (⟨rfl, rfl⟩)
    | succ d ih =>
      intro i hi hti
      have h1 := hT3 i hti (by omega)
      have hti1 := ht1 i
      have hm := en_mono f hti
      by_cases hE : f i = END
      · have e1 : e + (en f i - en f tn) + 1 = e + (en f (i + 1) - en f tn) := by
          have : en f (i + 1) = en f i + 1 := by show en f i + _ = _; rw [if_pos hE]
          omega
        refine r_aload_n hK d_Lk_take_10 rfl rfl ?_
        refine r_getI hK d_Lk_take_11 f_Lk_45 rfl (in_lk rfl (by assumption)) rfl rfl (r9 _ _) ?_
        refine r_aload_n hK d_Lk_take_14 rfl rfl ?_
        refine r_getI hK d_Lk_take_15 f_Lk_32 rfl (in_lk rfl (by assumption)) rfl rfl (r6 _ _) ?_
        refine rn_icmp_ge (tgt := 75) hK d_Lk_take_18 (by decide) (by first | omega | (split <;> omega)) (by first | omega | (split <;> omega)) (fun hno => absurd hno (by omega)) (fun _ => ?_)
        refine r_aload_n hK d_Lk_take_21 rfl rfl ?_
        refine r_getR hK d_Lk_take_22 f_Lk_21 rfl (in_lk rfl (by assumption)) rfl rfl ?_
        refine r_aload_n hK d_Lk_take_25 rfl rfl ?_
        refine r_getI hK d_Lk_take_26 f_Lk_45 rfl (in_lk rfl (by assumption)) rfl rfl (r9 _ _) ?_
        refine r_callSI hK d_Lk_take_29 m_Lk_41 (c_Lk_slotOf hg (n := i) (by omega)) (by decide) rfl rfl rfl ?_
        refine r_zald hK d_Lk_take_32 rfl rfl (in_lk rfl (by assumption)) (ix_nI (j := i % 32) (by have := m32 i; omega)) (m32 i) (r15 _ _ i hti (by omega)) ?_
        refine rn_if_eq (tgt := 75) hK d_Lk_take_33 (by decide) (by first | omega | (split <;> omega)) (fun hno => absurd hno (by omega)) (fun _ => ?_)
        refine r_aload_n hK d_Lk_take_36 rfl rfl ?_
        refine r_getR hK d_Lk_take_37 f_Lk_11 rfl (in_lk rfl (by assumption)) rfl rfl ?_
        refine r_aload_n hK d_Lk_take_40 rfl rfl ?_
        refine r_getI hK d_Lk_take_41 f_Lk_45 rfl (in_lk rfl (by assumption)) rfl rfl (r9 _ _) ?_
        refine r_callSI hK d_Lk_take_44 m_Lk_41 (c_Lk_slotOf hg (n := i) (by omega)) (by decide) rfl rfl rfl ?_
        refine r_iald hK d_Lk_take_47 rfl rfl (in_lk rfl (by assumption)) (ix_nI (j := i % 32) (by have := m32 i; omega)) (m32 i) ((r12 _ _ _).trans ((hp i hti (by omega)).1 hE)) ?_
        refine r_iconst (v := -1) hK d_Lk_take_48 (by decide) ?_
        refine r_icmp_ne (tgt := 62) hK d_Lk_take_49 (by decide) (fun hno => absurd hno (fun q => q rfl)) (fun _ => ?_)
        refine r_aload_n hK d_Lk_take_52 rfl rfl ?_
        refine r_dup hK d_Lk_take_53 rfl ?_
        refine r_getI hK d_Lk_take_54 f_Lk_48 rfl (in_lk rfl (by assumption)) rfl rfl (r10 _ _) ?_
        refine r_iconst (v := nI 1) hK d_Lk_take_57 (by decide) ?_
        refine r_iadd hK d_Lk_take_58 (nI_add _ _) ?_
        refine r_putI hK d_Lk_take_59 f_Lk_48 rfl (in_lk rfl (by assumption)) rfl rfl rfl rfl ?_
        refine r_aload_n hK d_Lk_take_62 rfl rfl ?_
        refine r_dup hK d_Lk_take_63 rfl ?_
        refine r_getI hK d_Lk_take_64 f_Lk_45 rfl (in_lk rfl (by assumption)) rfl rfl (v := nI i) (by simp [stT, up_eq]) ?_
        refine r_iconst (v := nI 1) hK d_Lk_take_67 (by decide) ?_
        refine r_iadd hK d_Lk_take_68 (nI_add _ _) ?_
        refine r_putI hK d_Lk_take_69 f_Lk_45 rfl (in_lk rfl (by assumption)) rfl rfl rfl rfl ?_
        refine r_goto (tgt := 10) hK d_Lk_take_72 (by decide) ?_
        rw [stT_e, e1]
        exact ih (i + 1) (by omega) (by omega)
      · have e1 : e + (en f i - en f tn) = e + (en f (i + 1) - en f tn) := by
          have : en f (i + 1) = en f i := by show en f i + _ = _; rw [if_neg hE]; rfl
          omega
        obtain ⟨p, hp2, hpv⟩ := (hp i hti (by omega)).2 hE
        refine r_aload_n hK d_Lk_take_10 rfl rfl ?_
        refine r_getI hK d_Lk_take_11 f_Lk_45 rfl (in_lk rfl (by assumption)) rfl rfl (r9 _ _) ?_
        refine r_aload_n hK d_Lk_take_14 rfl rfl ?_
        refine r_getI hK d_Lk_take_15 f_Lk_32 rfl (in_lk rfl (by assumption)) rfl rfl (r6 _ _) ?_
        refine rn_icmp_ge (tgt := 75) hK d_Lk_take_18 (by decide) (by first | omega | (split <;> omega)) (by first | omega | (split <;> omega)) (fun hno => absurd hno (by omega)) (fun _ => ?_)
        refine r_aload_n hK d_Lk_take_21 rfl rfl ?_
        refine r_getR hK d_Lk_take_22 f_Lk_21 rfl (in_lk rfl (by assumption)) rfl rfl ?_
        refine r_aload_n hK d_Lk_take_25 rfl rfl ?_
        refine r_getI hK d_Lk_take_26 f_Lk_45 rfl (in_lk rfl (by assumption)) rfl rfl (r9 _ _) ?_
        refine r_callSI hK d_Lk_take_29 m_Lk_41 (c_Lk_slotOf hg (n := i) (by omega)) (by decide) rfl rfl rfl ?_
        refine r_zald hK d_Lk_take_32 rfl rfl (in_lk rfl (by assumption)) (ix_nI (j := i % 32) (by have := m32 i; omega)) (m32 i) (r15 _ _ i hti (by omega)) ?_
        refine rn_if_eq (tgt := 75) hK d_Lk_take_33 (by decide) (by first | omega | (split <;> omega)) (fun hno => absurd hno (by omega)) (fun _ => ?_)
        refine r_aload_n hK d_Lk_take_36 rfl rfl ?_
        refine r_getR hK d_Lk_take_37 f_Lk_11 rfl (in_lk rfl (by assumption)) rfl rfl ?_
        refine r_aload_n hK d_Lk_take_40 rfl rfl ?_
        refine r_getI hK d_Lk_take_41 f_Lk_45 rfl (in_lk rfl (by assumption)) rfl rfl (r9 _ _) ?_
        refine r_callSI hK d_Lk_take_44 m_Lk_41 (c_Lk_slotOf hg (n := i) (by omega)) (by decide) rfl rfl rfl ?_
        refine r_iald hK d_Lk_take_47 rfl rfl (in_lk rfl (by assumption)) (ix_nI (j := i % 32) (by have := m32 i; omega)) (m32 i) ((r12 _ _ _).trans hpv) ?_
        refine r_iconst (v := -1) hK d_Lk_take_48 (by decide) ?_
        refine r_icmp_ne (tgt := 62) hK d_Lk_take_49 (by decide) (fun _ => ?_) (fun hno => absurd hno (neg1 (by omega)))
        refine r_aload_n hK d_Lk_take_62 rfl rfl ?_
        refine r_dup hK d_Lk_take_63 rfl ?_
        refine r_getI hK d_Lk_take_64 f_Lk_45 rfl (in_lk rfl (by assumption)) rfl rfl (r9 _ _) ?_
        refine r_iconst (v := nI 1) hK d_Lk_take_67 (by decide) ?_
        refine r_iadd hK d_Lk_take_68 (nI_add _ _) ?_
        refine r_putI hK d_Lk_take_69 f_Lk_45 rfl (in_lk rfl (by assumption)) rfl rfl rfl rfl ?_
        refine r_goto (tgt := 10) hK d_Lk_take_72 (by decide) ?_
        rw [stT_t, e1]
        exact ih (i + 1) (by omega) (by omega)
  have h0 := hloop (T - tn) tn (by omega) (Nat.le_refl _)
  rw [Nat.sub_self, Nat.add_zero, stT, up_id (σ := up σ 15 x (n % 32) (nI 1)) (v := nI tn) (by simp [up_eq, h9]), up_id (v := nI e) (by simp [up_eq, h10])] at h0
  refine r_aload_n hK d_Lk_take_0 rfl rfl ?_
  refine r_getR hK d_Lk_take_1 f_Lk_21 rfl (in_lk rfl (by assumption)) rfl rfl ?_
  refine r_iload_n hK d_Lk_take_4 rfl rfl ?_
  refine r_callSI hK d_Lk_take_5 m_Lk_41 (c_Lk_slotOf hg (n := n) (by omega)) (by decide) rfl rfl rfl ?_
  refine r_iconst (v := nI 1) hK d_Lk_take_8 (by decide) ?_
  refine r_zast hK d_Lk_take_9 rfl rfl (in_lk rfl (by assumption)) (ix_nI (j := n % 32) (by have := m32 n; omega)) (m32 n) rfl ?_
  exact h0
theorem c_Lk_earlyNumber (hg : Gok g) (hx : x < 3 * g.2.1) {mk tn : Nat} {t : Nat → Nat} (h6 : σ 11 x 6 = nI mk) (h9 : σ 11 x 9 = nI tn) (hmk : mk < 2 ^ 20) (hle : tn ≤ mk) (ht : ∀ j, tn ≤ j → j < mk → σ 15 x (j % 32) = nI (t j)) (ht1 : ∀ j, t j ≤ 1) : CI l g y_Lk_earlyNumber 1 [.ref (g.1 11 x)] σ (nI (sumF t tn (mk - tn))) σ := by
  have m32 : ∀ j, j % 32 < 32 := fun j => Nat.mod_lt _ (by decide)
  refine ofK hg w_cd_Lk_earlyNumber (by decide) (by decide) (by first | decide | simp) (by simp [Value.category]) ?_
  intro K hK hR
  have hK : Gd l g "GradientShards$Link" b_Lk_earlyNumber 3 _ K := hK
  have hloop : ∀ d i, i + d = mk - tn → K 7 [.ref (g.1 11 x), .int (nI (sumF t tn i)), .int (nI (tn + i))] [] σ := by
    intro d
    induction d with
    | zero =>
      intro i hi
      obtain rfl : i = mk - tn := by omega
      refine r_iload_n hK d_Lk_earlyNumber_7 rfl rfl ?_
      refine r_aload_n hK d_Lk_earlyNumber_8 rfl rfl ?_
      refine r_getI hK d_Lk_earlyNumber_9 f_Lk_32 rfl (in_lk rfl (by assumption)) rfl rfl h6 ?_
      refine rn_icmp_ge (tgt := 36) hK d_Lk_earlyNumber_12 (by decide) (by first | omega | (split <;> omega)) (by first | omega | (split <;> omega)) (fun _ => ?_) (fun hno => absurd hno (by omega))
      refine r_iload_n hK d_Lk_earlyNumber_36 rfl rfl ?_
      exact hR.i d_Lk_earlyNumber_37 rfl (⟨rfl, rfl⟩)
    | succ d ih =>
      intro i hi
      have e1 : sumF t tn (i + 1) = sumF t tn i + t (tn + i) := rfl
      have h1 := ht1 (tn + i)
      have ih2 := ih (i + 1) (by omega)
      refine r_iload_n hK d_Lk_earlyNumber_7 rfl rfl ?_
      refine r_aload_n hK d_Lk_earlyNumber_8 rfl rfl ?_
      refine r_getI hK d_Lk_earlyNumber_9 f_Lk_32 rfl (in_lk rfl (by assumption)) rfl rfl h6 ?_
      refine rn_icmp_ge (tgt := 36) hK d_Lk_earlyNumber_12 (by decide) (by first | omega | (split <;> omega)) (by first | omega | (split <;> omega)) (fun hno => absurd hno (by omega)) (fun _ => ?_)
      refine r_aload_n hK d_Lk_earlyNumber_15 rfl rfl ?_
      refine r_getR hK d_Lk_earlyNumber_16 f_Lk_21 rfl (in_lk rfl (by assumption)) rfl rfl ?_
      refine r_iload_n hK d_Lk_earlyNumber_19 rfl rfl ?_
      refine r_callSI hK d_Lk_earlyNumber_20 m_Lk_41 (c_Lk_slotOf hg (n := tn + i) (by omega)) (by decide) rfl rfl rfl ?_
      refine r_zald hK d_Lk_earlyNumber_23 rfl rfl (in_lk rfl (by assumption)) (ix_nI (j := (tn + i) % 32) (by have := m32 (tn + i); omega)) (m32 (tn + i)) (ht (tn + i) (by omega) (by omega)) ?_
      refine rn_if_eq (tgt := 30) hK d_Lk_earlyNumber_24 (by decide) (by first | omega | (split <;> omega)) (fun q => ?_) (fun q => ?_)
      · rw [e1, q] at ih2
        refine r_iinc hK d_Lk_earlyNumber_30 rfl (nI_1 _) rfl ?_
        refine r_goto (tgt := 7) hK d_Lk_earlyNumber_33 (by decide) ?_
        exact ih2
      · rw [e1, show t (tn + i) = 1 by omega] at ih2
        refine r_iinc hK d_Lk_earlyNumber_27 rfl (nI_1 _) rfl ?_
        refine r_iinc hK d_Lk_earlyNumber_30 rfl (nI_1 _) rfl ?_
        refine r_goto (tgt := 7) hK d_Lk_earlyNumber_33 (by decide) ?_
        exact ih2
  refine r_iconst (v := nI 0) hK d_Lk_earlyNumber_0 (by decide) ?_
  refine r_istore_n hK d_Lk_earlyNumber_1 rfl rfl rfl ?_
  refine r_aload_n hK d_Lk_earlyNumber_2 rfl rfl ?_
  refine r_getI hK d_Lk_earlyNumber_3 f_Lk_45 rfl (in_lk rfl (by assumption)) rfl rfl h9 ?_
  refine r_istore_n hK d_Lk_earlyNumber_6 rfl rfl rfl ?_
  exact hloop (mk - tn) 0 (by omega)
theorem c_Gs_bounded (hg : Gok g) (v : Int32) : CI l g y_Gs_bounded 0 [.int v] σ (nar v) σ := by
  refine ofK hg w_cd_Gs_bounded (by decide) (by decide) (by first | decide | simp) (by simp [Value.category]) ?_
  intro K hK hR
  have hK : Gd l g "GradientShards" b_Gs_bounded 1 _ K := hK
  refine r_iload_n hK d_Gs_bounded_0 rfl rfl ?_
  refine r_bipush (v := -99) hK d_Gs_bounded_1 (by decide) ?_
  refine r_icmp_ge (tgt := 9) hK d_Gs_bounded_3 (by decide) (fun q1 => ?_) (fun q1 => ?_)
  · refine r_iload_n hK d_Gs_bounded_9 rfl rfl ?_
    refine r_bipush (v := nI 99) hK d_Gs_bounded_10 (by decide) ?_
    refine r_icmp_le (tgt := 20) hK d_Gs_bounded_12 (by decide) (fun q2 => ?_) (fun q2 => ?_)
    · refine r_iload_n hK d_Gs_bounded_20 rfl rfl ?_
      exact hR.i d_Gs_bounded_21 rfl (⟨by unfold nar; rw [if_neg (Int32.not_lt.mpr q1)]; first | rw [if_neg (Int32.not_lt.mpr q2)] | rw [if_pos (Int32.not_le.mp q2)], rfl⟩)
    · refine r_bipush (v := nI 99) hK d_Gs_bounded_15 (by decide) ?_
      refine r_goto (tgt := 21) hK d_Gs_bounded_17 (by decide) ?_
      exact hR.i d_Gs_bounded_21 rfl (⟨by unfold nar; rw [if_neg (Int32.not_lt.mpr q1)]; first | rw [if_neg (Int32.not_lt.mpr q2)] | rw [if_pos (Int32.not_le.mp q2)], rfl⟩)
  · refine r_bipush (v := -99) hK d_Gs_bounded_6 (by decide) ?_
    exact hR.i d_Gs_bounded_8 rfl (⟨by unfold nar; rw [if_pos (Int32.not_le.mp q1)], rfl⟩)
theorem c_Lk_contribution (hg : Gok g) (hx : x < 3 * g.2.1) {b tn p h k : Nat} {f : Nat → Nat} (h9 : σ 11 x 9 = nI tn) (h11 : σ 11 x 11 = nI b) (htn : tn < 2 ^ 20) (hle : b ≤ tn) (hr : RgP f σ x b tn) (hok : ∀ j, b ≤ j → j < tn → f j ≠ END → f j / 1000 < 6 ∧ f j / 1000 % 3 = h) (hp : p < 2) (hk : k = 3 * p + h) (hh : h < 3) : CI l g y_Lk_contribution 1 [.ref (g.1 11 x), .int (nI p)] σ (conF f k b (tn - b) (nI 0)) σ := by
  have m32 : ∀ j, j % 32 < 32 := fun j => Nat.mod_lt _ (by decide)
  refine ofK hg w_cd_Lk_contribution (by decide) (by decide) (by first | decide | simp) (by simp [Value.category]) ?_
  intro K hK hR
  have hK : Gd l g "GradientShards$Link" b_Lk_contribution 4 _ K := hK
  have hloop : ∀ d i s, i + d = tn → b ≤ i → conF f k i d s = conF f k b (tn - b) (nI 0) → K 7 [.ref (g.1 11 x), .int (nI p), .int s, .int (nI i)] [] σ := by
    intro d
    induction d with
    | zero =>
      intro i s hi hbi hV
      have hV : s = conF f k b (tn - b) (nI 0) := hV
      refine r_iload_n hK d_Lk_contribution_7 rfl rfl ?_
      refine r_aload_n hK d_Lk_contribution_8 rfl rfl ?_
      refine r_getI hK d_Lk_contribution_9 f_Lk_45 rfl (in_lk rfl (by assumption)) rfl rfl h9 ?_
      refine rn_icmp_ge (tgt := 62) hK d_Lk_contribution_12 (by decide) (by first | omega | (split <;> omega)) (by first | omega | (split <;> omega)) (fun _ => ?_) (fun hno => absurd hno (by omega))
      refine r_iload_n hK d_Lk_contribution_62 rfl rfl ?_
      exact hR.i d_Lk_contribution_63 rfl (⟨by rw [hV], rfl⟩)
    | succ d ih =>
      intro i s hi hbi hV
      have hri := hr i hbi (by omega)
      by_cases hE : f i = END
      · have hV : s = conF f k b (tn - b) (nI 0) := by rw [← hV]; unfold conF; rw [if_pos hE]
        refine r_iload_n hK d_Lk_contribution_7 rfl rfl ?_
        refine r_aload_n hK d_Lk_contribution_8 rfl rfl ?_
        refine r_getI hK d_Lk_contribution_9 f_Lk_45 rfl (in_lk rfl (by assumption)) rfl rfl h9 ?_
        refine rn_icmp_ge (tgt := 62) hK d_Lk_contribution_12 (by decide) (by first | omega | (split <;> omega)) (by first | omega | (split <;> omega)) (fun hno => absurd hno (by omega)) (fun _ => ?_)
        refine r_aload_n hK d_Lk_contribution_15 rfl rfl ?_
        refine r_getR hK d_Lk_contribution_16 f_Lk_11 rfl (in_lk rfl (by assumption)) rfl rfl ?_
        refine r_iload_n hK d_Lk_contribution_19 rfl rfl ?_
        refine r_callSI hK d_Lk_contribution_20 m_Lk_41 (c_Lk_slotOf hg (n := i) (by omega)) (by decide) rfl rfl rfl ?_
        refine r_iald hK d_Lk_contribution_23 rfl rfl (in_lk rfl (by assumption)) (ix_nI (j := i % 32) (by have := m32 i; omega)) (m32 i) (hri.1 hE) ?_
        refine r_iconst (v := -1) hK d_Lk_contribution_24 (by decide) ?_
        refine r_icmp_eq (tgt := 62) hK d_Lk_contribution_25 (by decide) (fun _ => ?_) (fun hno => absurd (rfl) hno)
        refine r_iload_n hK d_Lk_contribution_62 rfl rfl ?_
        exact hR.i d_Lk_contribution_63 rfl (⟨by rw [hV], rfl⟩)
      · obtain ⟨hv1, hv2⟩ := hri.2 hE
        obtain ⟨ho1, ho2⟩ := hok i hbi (by omega) hE
        have hV : conF f k (i + 1) d (if f i / 1000 = k then nar (s + nI (f i % 1000) - nI 100) else s) = conF f k b (tn - b) (nI 0) := by rw [← hV]; show _ = (if f i = END then _ else _); rw [if_neg hE]
        refine r_iload_n hK d_Lk_contribution_7 rfl rfl ?_
        refine r_aload_n hK d_Lk_contribution_8 rfl rfl ?_
        refine r_getI hK d_Lk_contribution_9 f_Lk_45 rfl (in_lk rfl (by assumption)) rfl rfl h9 ?_
        refine rn_icmp_ge (tgt := 62) hK d_Lk_contribution_12 (by decide) (by first | omega | (split <;> omega)) (by first | omega | (split <;> omega)) (fun hno => absurd hno (by omega)) (fun _ => ?_)
        refine r_aload_n hK d_Lk_contribution_15 rfl rfl ?_
        refine r_getR hK d_Lk_contribution_16 f_Lk_11 rfl (in_lk rfl (by assumption)) rfl rfl ?_
        refine r_iload_n hK d_Lk_contribution_19 rfl rfl ?_
        refine r_callSI hK d_Lk_contribution_20 m_Lk_41 (c_Lk_slotOf hg (n := i) (by omega)) (by decide) rfl rfl rfl ?_
        refine r_iald hK d_Lk_contribution_23 rfl rfl (in_lk rfl (by assumption)) (ix_nI (j := i % 32) (by have := m32 i; omega)) (m32 i) hv1 ?_
        refine r_iconst (v := -1) hK d_Lk_contribution_24 (by decide) ?_
        refine r_icmp_eq (tgt := 62) hK d_Lk_contribution_25 (by decide) (fun hno => absurd hno (neg1 (by omega))) (fun _ => ?_)
        refine r_aload_n hK d_Lk_contribution_28 rfl rfl ?_
        refine r_getR hK d_Lk_contribution_29 f_Lk_11 rfl (in_lk rfl (by assumption)) rfl rfl ?_
        refine r_iload_n hK d_Lk_contribution_32 rfl rfl ?_
        refine r_callSI hK d_Lk_contribution_33 m_Lk_41 (c_Lk_slotOf hg (n := i) (by omega)) (by decide) rfl rfl rfl ?_
        refine r_iald hK d_Lk_contribution_36 rfl rfl (in_lk rfl (by assumption)) (ix_nI (j := i % 32) (by have := m32 i; omega)) (m32 i) hv1 ?_
        refine r_iload_n hK d_Lk_contribution_37 rfl rfl ?_
        refine rn_icmp_ne (tgt := 56) hK d_Lk_contribution_38 (by decide) (by first | omega | (split <;> omega)) (by first | omega | (split <;> omega)) (fun q => ?_) (fun q => ?_)
        · rw [if_neg (by omega)] at hV
          refine r_iinc hK d_Lk_contribution_56 rfl (nI_1 _) rfl ?_
          refine r_goto (tgt := 7) hK d_Lk_contribution_59 (by decide) ?_
          exact ih (i + 1) _ (by omega) (by omega) hV
        · rw [if_pos (by omega)] at hV
          refine r_iload_n hK d_Lk_contribution_41 rfl rfl ?_
          refine r_aload_n hK d_Lk_contribution_42 rfl rfl ?_
          refine r_getR hK d_Lk_contribution_43 f_Lk_15 rfl (in_lk rfl (by assumption)) rfl rfl ?_
          refine r_iload_n hK d_Lk_contribution_46 rfl rfl ?_
          refine r_callSI hK d_Lk_contribution_47 m_Lk_41 (c_Lk_slotOf hg (n := i) (by omega)) (by decide) rfl rfl rfl ?_
          refine r_iald hK d_Lk_contribution_50 rfl rfl (in_lk rfl (by assumption)) (ix_nI (j := i % 32) (by have := m32 i; omega)) (m32 i) hv2 ?_
          refine r_iadd hK d_Lk_contribution_51 (i_asub _ _ _) ?_
          refine r_callSI hK d_Lk_contribution_52 m_Lk_54 (c_Gs_bounded hg _) (by decide) rfl rfl rfl ?_
          refine r_istore_n hK d_Lk_contribution_55 rfl rfl rfl ?_
          refine r_iinc hK d_Lk_contribution_56 rfl (nI_1 _) rfl ?_
          refine r_goto (tgt := 7) hK d_Lk_contribution_59 (by decide) ?_
          exact ih (i + 1) _ (by omega) (by omega) hV
  refine r_iconst (v := nI 0) hK d_Lk_contribution_0 (by decide) ?_
  refine r_istore_n hK d_Lk_contribution_1 rfl rfl rfl ?_
  refine r_aload_n hK d_Lk_contribution_2 rfl rfl ?_
  refine r_getI hK d_Lk_contribution_3 f_Lk_51 rfl (in_lk rfl (by assumption)) rfl rfl h11 ?_
  refine r_istore_n hK d_Lk_contribution_6 rfl rfl rfl ?_
  exact hloop (tn - b) b (nI 0) (by omega) (Nat.le_refl _) rfl
theorem c_Lk_moveB (hg : Gok g) (hx : x < 3 * g.2.1) {b tn E : Nat} {f : Nat → Nat} (h9 : σ 11 x 9 = nI tn) (h11 : σ 11 x 11 = nI b) (htn : tn < 2 ^ 20) (hr : RgP f σ x b tn) (hok : ∀ j, b ≤ j → j < tn → f j ≠ END → f j / 1000 < 6) (hE1 : b ≤ E) (hE2 : E < tn) (hE3 : f E = END) (hE4 : ∀ j, b ≤ j → j < E → f j ≠ END) : CV l g y_Lk_moveBoundaryBehindNextEnd 1 [.ref (g.1 11 x)] σ (up σ 11 x 11 (nI (E + 1))) := by
  have m32 : ∀ j, j % 32 < 32 := fun j => Nat.mod_lt _ (by decide)
  have r11 : ∀ i, up σ 11 x 11 (nI i) 11 x 11 = nI i := fun i => by simp [up_eq]
  have r9 : ∀ i, up σ 11 x 11 (nI i) 11 x 9 = nI tn := fun i => by simp [up_eq, h9]
  have r12 : ∀ i j, up σ 11 x 11 (nI i) 12 x j = σ 12 x j := fun i j => by rw [up_k (by decide)]
  refine ofK hg w_cd_Lk_moveBoundaryBehindNextEnd (by decide) (by decide) (by first | decide | simp) (by simp [Value.category]) ?_
  intro K hK hR
  have hK : Gd l g "GradientShards$Link" b_Lk_moveBoundaryBehindNextEnd 2 _ K := hK
  have hend : K 2 [.ref (g.1 11 x), .int (nI 1)] [] (up σ 11 x 11 (nI (E + 1))) := by
    refine r_aload_n hK d_Lk_moveBoundaryBehindNextEnd_2 rfl rfl ?_
    refine r_getI hK d_Lk_moveBoundaryBehindNextEnd_3 f_Lk_51 rfl (in_lk rfl (by assumption)) rfl rfl (r11 _) ?_
    refine r_aload_n hK d_Lk_moveBoundaryBehindNextEnd_6 rfl rfl ?_
    refine r_getI hK d_Lk_moveBoundaryBehindNextEnd_7 f_Lk_45 rfl (in_lk rfl (by assumption)) rfl rfl (r9 _) ?_
    refine rn_icmp_ge (tgt := 52) hK d_Lk_moveBoundaryBehindNextEnd_10 (by decide) (by first | omega | (split <;> omega)) (by first | omega | (split <;> omega)) (fun q => ?_) (fun q => ?_)
    · exact hR.v d_Lk_moveBoundaryBehindNextEnd_52 (⟨rfl, rfl⟩)
    · refine r_iload_n hK d_Lk_moveBoundaryBehindNextEnd_13 rfl rfl ?_
      refine rn_if_ne (tgt := 52) hK d_Lk_moveBoundaryBehindNextEnd_14 (by decide) (by first | omega | (split <;> omega)) (fun _ => ?_) (fun hno => absurd hno (by omega))
      exact hR.v d_Lk_moveBoundaryBehindNextEnd_52 (⟨rfl, rfl⟩)
  have hloop : ∀ d i, i + d = E → b ≤ i → K 2 [.ref (g.1 11 x), .int (nI 0)] [] (up σ 11 x 11 (nI i)) := by
    intro d
    induction d with
    | zero =>
      intro i hi hbi
      obtain rfl : i = E := by omega
      refine r_aload_n hK d_Lk_moveBoundaryBehindNextEnd_2 rfl rfl ?_
      refine r_getI hK d_Lk_moveBoundaryBehindNextEnd_3 f_Lk_51 rfl (in_lk rfl (by assumption)) rfl rfl (r11 _) ?_
      refine r_aload_n hK d_Lk_moveBoundaryBehindNextEnd_6 rfl rfl ?_
      refine r_getI hK d_Lk_moveBoundaryBehindNextEnd_7 f_Lk_45 rfl (in_lk rfl (by assumption)) rfl rfl (r9 _) ?_
      refine rn_icmp_ge (tgt := 52) hK d_Lk_moveBoundaryBehindNextEnd_10 (by decide) (by first | omega | (split <;> omega)) (by first | omega | (split <;> omega)) (fun hno => absurd hno (by omega)) (fun _ => ?_)
      refine r_iload_n hK d_Lk_moveBoundaryBehindNextEnd_13 rfl rfl ?_
      refine rn_if_ne (tgt := 52) hK d_Lk_moveBoundaryBehindNextEnd_14 (by decide) (by first | omega | (split <;> omega)) (fun hno => absurd hno (by omega)) (fun _ => ?_)
      refine r_aload_n hK d_Lk_moveBoundaryBehindNextEnd_17 rfl rfl ?_
      refine r_getR hK d_Lk_moveBoundaryBehindNextEnd_18 f_Lk_11 rfl (in_lk rfl (by assumption)) rfl rfl ?_
      refine r_aload_n hK d_Lk_moveBoundaryBehindNextEnd_21 rfl rfl ?_
      refine r_getI hK d_Lk_moveBoundaryBehindNextEnd_22 f_Lk_51 rfl (in_lk rfl (by assumption)) rfl rfl (r11 _) ?_
      refine r_callSI hK d_Lk_moveBoundaryBehindNextEnd_25 m_Lk_41 (c_Lk_slotOf hg (n := i) (by omega)) (by decide) rfl rfl rfl ?_
      refine r_iald hK d_Lk_moveBoundaryBehindNextEnd_28 rfl rfl (in_lk rfl (by assumption)) (ix_nI (j := i % 32) (by have := m32 i; omega)) (m32 i) ((r12 _ _).trans ((hr i hbi (by omega)).1 hE3)) ?_
      refine r_iconst (v := -1) hK d_Lk_moveBoundaryBehindNextEnd_29 (by decide) ?_
      refine r_icmp_ne (tgt := 37) hK d_Lk_moveBoundaryBehindNextEnd_30 (by decide) (fun hno => absurd hno (fun q => q rfl)) (fun _ => ?_)
      refine r_iconst (v := nI 1) hK d_Lk_moveBoundaryBehindNextEnd_33 (by decide) ?_
      refine r_goto (tgt := 38) hK d_Lk_moveBoundaryBehindNextEnd_34 (by decide) ?_
      refine r_istore_n hK d_Lk_moveBoundaryBehindNextEnd_38 rfl rfl rfl ?_
      refine r_aload_n hK d_Lk_moveBoundaryBehindNextEnd_39 rfl rfl ?_
      refine r_dup hK d_Lk_moveBoundaryBehindNextEnd_40 rfl ?_
      refine r_getI hK d_Lk_moveBoundaryBehindNextEnd_41 f_Lk_51 rfl (in_lk rfl (by assumption)) rfl rfl (r11 _) ?_
      refine r_iconst (v := nI 1) hK d_Lk_moveBoundaryBehindNextEnd_44 (by decide) ?_
      refine r_iadd hK d_Lk_moveBoundaryBehindNextEnd_45 (nI_add _ _) ?_
      refine r_putI hK d_Lk_moveBoundaryBehindNextEnd_46 f_Lk_51 rfl (in_lk rfl (by assumption)) rfl rfl rfl rfl ?_
      refine r_goto (tgt := 2) hK d_Lk_moveBoundaryBehindNextEnd_49 (by decide) ?_
      rw [up_same]
      exact hend
    | succ d ih =>
      intro i hi hbi
      have hne := hE4 i hbi (by omega)
      have ho := hok i hbi (by omega) hne
      refine r_aload_n hK d_Lk_moveBoundaryBehindNextEnd_2 rfl rfl ?_
      refine r_getI hK d_Lk_moveBoundaryBehindNextEnd_3 f_Lk_51 rfl (in_lk rfl (by assumption)) rfl rfl (r11 _) ?_
      refine r_aload_n hK d_Lk_moveBoundaryBehindNextEnd_6 rfl rfl ?_
      refine r_getI hK d_Lk_moveBoundaryBehindNextEnd_7 f_Lk_45 rfl (in_lk rfl (by assumption)) rfl rfl (r9 _) ?_
      refine rn_icmp_ge (tgt := 52) hK d_Lk_moveBoundaryBehindNextEnd_10 (by decide) (by first | omega | (split <;> omega)) (by first | omega | (split <;> omega)) (fun hno => absurd hno (by omega)) (fun _ => ?_)
      refine r_iload_n hK d_Lk_moveBoundaryBehindNextEnd_13 rfl rfl ?_
      refine rn_if_ne (tgt := 52) hK d_Lk_moveBoundaryBehindNextEnd_14 (by decide) (by first | omega | (split <;> omega)) (fun hno => absurd hno (by omega)) (fun _ => ?_)
      refine r_aload_n hK d_Lk_moveBoundaryBehindNextEnd_17 rfl rfl ?_
      refine r_getR hK d_Lk_moveBoundaryBehindNextEnd_18 f_Lk_11 rfl (in_lk rfl (by assumption)) rfl rfl ?_
      refine r_aload_n hK d_Lk_moveBoundaryBehindNextEnd_21 rfl rfl ?_
      refine r_getI hK d_Lk_moveBoundaryBehindNextEnd_22 f_Lk_51 rfl (in_lk rfl (by assumption)) rfl rfl (r11 _) ?_
      refine r_callSI hK d_Lk_moveBoundaryBehindNextEnd_25 m_Lk_41 (c_Lk_slotOf hg (n := i) (by omega)) (by decide) rfl rfl rfl ?_
      refine r_iald hK d_Lk_moveBoundaryBehindNextEnd_28 rfl rfl (in_lk rfl (by assumption)) (ix_nI (j := i % 32) (by have := m32 i; omega)) (m32 i) ((r12 _ _).trans ((hr i hbi (by omega)).2 hne).1) ?_
      refine r_iconst (v := -1) hK d_Lk_moveBoundaryBehindNextEnd_29 (by decide) ?_
      refine r_icmp_ne (tgt := 37) hK d_Lk_moveBoundaryBehindNextEnd_30 (by decide) (fun _ => ?_) (fun hno => absurd hno (neg1 (by omega)))
      refine r_iconst (v := nI 0) hK d_Lk_moveBoundaryBehindNextEnd_37 (by decide) ?_
      refine r_istore_n hK d_Lk_moveBoundaryBehindNextEnd_38 rfl rfl rfl ?_
      refine r_aload_n hK d_Lk_moveBoundaryBehindNextEnd_39 rfl rfl ?_
      refine r_dup hK d_Lk_moveBoundaryBehindNextEnd_40 rfl ?_
      refine r_getI hK d_Lk_moveBoundaryBehindNextEnd_41 f_Lk_51 rfl (in_lk rfl (by assumption)) rfl rfl (r11 _) ?_
      refine r_iconst (v := nI 1) hK d_Lk_moveBoundaryBehindNextEnd_44 (by decide) ?_
      refine r_iadd hK d_Lk_moveBoundaryBehindNextEnd_45 (nI_add _ _) ?_
      refine r_putI hK d_Lk_moveBoundaryBehindNextEnd_46 f_Lk_51 rfl (in_lk rfl (by assumption)) rfl rfl rfl rfl ?_
      refine r_goto (tgt := 2) hK d_Lk_moveBoundaryBehindNextEnd_49 (by decide) ?_
      rw [up_same]
      exact ih (i + 1) (by omega) (by omega)
  have h0 := hloop (E - b) b (by omega) (Nat.le_refl _)
  rw [up_id h11] at h0
  refine r_iconst (v := nI 0) hK d_Lk_moveBoundaryBehindNextEnd_0 (by decide) ?_
  refine r_istore_n hK d_Lk_moveBoundaryBehindNextEnd_1 rfl rfl rfl ?_
  exact h0
theorem c_Lk_keepFromBoundary (hg : Gok g) (hx : x < 3 * g.2.1) {a b c : Nat} (h7 : σ 11 x 7 = nI a) (h8 : σ 11 x 8 = nI c) (h11 : σ 11 x 11 = nI b) (hle : a ≤ b) (hb : b < 2 ^ 30) (hc : c < 2 ^ 30) : CI l g y_Lk_keepFromBoundary 1 [.ref (g.1 11 x)] σ (nI (b - a)) (up (up σ 11 x 7 (nI b)) 11 x 8 (nI (max c b))) := by
  refine ofK hg w_cd_Lk_keepFromBoundary (by decide) (by decide) (by first | decide | simp) (by simp [Value.category]) ?_
  intro K hK hR
  have hK : Gd l g "GradientShards$Link" b_Lk_keepFromBoundary 2 _ K := hK
  refine r_aload_n hK d_Lk_keepFromBoundary_0 rfl rfl ?_
  refine r_getI hK d_Lk_keepFromBoundary_1 f_Lk_51 rfl (in_lk rfl (by assumption)) rfl rfl h11 ?_
  refine r_aload_n hK d_Lk_keepFromBoundary_4 rfl rfl ?_
  refine r_getI hK d_Lk_keepFromBoundary_5 f_Lk_35 rfl (in_lk rfl (by assumption)) rfl rfl h7 ?_
  refine r_isub hK d_Lk_keepFromBoundary_8 (pk_sub (by omega)) ?_
  refine r_istore_n hK d_Lk_keepFromBoundary_9 rfl rfl rfl ?_
  refine r_aload_n hK d_Lk_keepFromBoundary_10 rfl rfl ?_
  refine r_aload_n hK d_Lk_keepFromBoundary_11 rfl rfl ?_
  refine r_getI hK d_Lk_keepFromBoundary_12 f_Lk_51 rfl (in_lk rfl (by assumption)) rfl rfl h11 ?_
  refine r_putI hK d_Lk_keepFromBoundary_15 f_Lk_35 rfl (in_lk rfl (by assumption)) rfl rfl rfl rfl ?_
  refine r_aload_n hK d_Lk_keepFromBoundary_18 rfl rfl ?_
  refine r_aload_n hK d_Lk_keepFromBoundary_19 rfl rfl ?_
  refine r_getI hK d_Lk_keepFromBoundary_20 f_Lk_38 rfl (in_lk rfl (by assumption)) rfl rfl (v := nI c) (by simp [up_eq, h8]) ?_
  refine r_aload_n hK d_Lk_keepFromBoundary_23 rfl rfl ?_
  refine r_getI hK d_Lk_keepFromBoundary_24 f_Lk_51 rfl (in_lk rfl (by assumption)) rfl rfl (v := nI b) (by simp [up_eq, h11]) ?_
  refine r_mmax hK d_Lk_keepFromBoundary_27 a_Lk_57 (by decide) (Nat.le_of_ble_eq_true rfl) ?_
  rw [mx_nI (by omega) (by omega)]
  refine r_putI hK d_Lk_keepFromBoundary_30 f_Lk_38 rfl (in_lk rfl (by assumption)) rfl rfl rfl rfl ?_
  refine r_iload_n hK d_Lk_keepFromBoundary_33 rfl rfl ?_
  exact hR.i d_Lk_keepFromBoundary_34 rfl (⟨rfl, rfl⟩)
def gbS (σ : Sg) (x a : Nat) (e : Int32) : Sg := upr (up (up (up (up σ 11 x 9 (nI a)) 11 x 11 (nI a)) 11 x 8 (nI a)) 11 x 10 e) 15 x (fun j => if j < 32 then nI 0 else σ 15 x j)
theorem c_Lk_goBackToStart (hg : Gok g) (hx : x < 3 * g.2.1) {a : Nat} {e : Int32} (h7 : σ 11 x 7 = nI a) : CV l g y_Lk_goBackToStart 1 [.ref (g.1 11 x), .int e] σ (gbS σ x a e) := by
  refine ofK hg w_cd_Lk_goBackToStart (by decide) (by decide) (by first | decide | simp) (by simp [Value.category]) ?_
  intro K hK hR
  have hK : Gd l g "GradientShards$Link" b_Lk_goBackToStart 3 _ K := hK
  generalize hS : up (up (up (up σ 11 x 9 (nI a)) 11 x 11 (nI a)) 11 x 8 (nI a)) 11 x 10 e = S
  have h15 : S 15 = σ 15 := by rw [← hS, up_k (by decide), up_k (by decide), up_k (by decide), up_k (by decide)]
  have hloop : ∀ d i, i + d = 32 → K 31 [.ref (g.1 11 x), .int e, .int (nI i)] [] (upr S 15 x (fun j => if j < i then nI 0 else σ 15 x j)) := by
    intro d
    induction d with
    | zero =>
      intro i hi
      obtain rfl : i = 32 := by omega
      refine r_iload_n hK d_Lk_goBackToStart_31 rfl rfl ?_
      refine r_bipush (v := nI 32) hK d_Lk_goBackToStart_32 (by decide) ?_
      refine rn_icmp_ge (tgt := 50) hK d_Lk_goBackToStart_34 (by decide) (by first | omega | (split <;> omega)) (by first | omega | (split <;> omega)) (fun _ => ?_) (fun hno => absurd hno (by omega))
      exact hR.v d_Lk_goBackToStart_50 (⟨rfl, by unfold gbS; rw [hS]⟩)
    | succ d ih =>
      intro i hi
      have e1 : upd (fun j => if j < i then nI 0 else σ 15 x j) i (nI 0) = fun j => if j < i + 1 then nI 0 else σ 15 x j := by
        funext j
        unfold upd
        by_cases q : j = i
        · subst q
          rw [if_pos rfl, if_pos (by omega)]
        · rw [if_neg q]
          show (if j < i then nI 0 else σ 15 x j) = _
          by_cases q2 : j < i
          · rw [if_pos q2, if_pos (by omega)]
          · rw [if_neg q2, if_neg (by omega)]
      refine r_iload_n hK d_Lk_goBackToStart_31 rfl rfl ?_
      refine r_bipush (v := nI 32) hK d_Lk_goBackToStart_32 (by decide) ?_
      refine rn_icmp_ge (tgt := 50) hK d_Lk_goBackToStart_34 (by decide) (by first | omega | (split <;> omega)) (by first | omega | (split <;> omega)) (fun hno => absurd hno (by omega)) (fun _ => ?_)
      refine r_aload_n hK d_Lk_goBackToStart_37 rfl rfl ?_
      refine r_getR hK d_Lk_goBackToStart_38 f_Lk_21 rfl (in_lk rfl (by assumption)) rfl rfl ?_
      refine r_iload_n hK d_Lk_goBackToStart_41 rfl rfl ?_
      refine r_iconst (v := nI 0) hK d_Lk_goBackToStart_42 (by decide) ?_
      refine r_zast hK d_Lk_goBackToStart_43 rfl rfl (in_lk rfl (by assumption)) (ix_nI (j := i) (by omega)) (by show i < 32; omega) rfl ?_
      refine r_iinc hK d_Lk_goBackToStart_44 rfl (nI_1 _) rfl ?_
      refine r_goto (tgt := 31) hK d_Lk_goBackToStart_47 (by decide) ?_
      rw [up_upr, e1]
      exact ih (i + 1) (by omega)
  refine r_aload_n hK d_Lk_goBackToStart_0 rfl rfl ?_
  refine r_aload_n hK d_Lk_goBackToStart_1 rfl rfl ?_
  refine r_getI hK d_Lk_goBackToStart_2 f_Lk_35 rfl (in_lk rfl (by assumption)) rfl rfl h7 ?_
  refine r_putI hK d_Lk_goBackToStart_5 f_Lk_45 rfl (in_lk rfl (by assumption)) rfl rfl rfl rfl ?_
  refine r_aload_n hK d_Lk_goBackToStart_8 rfl rfl ?_
  refine r_aload_n hK d_Lk_goBackToStart_9 rfl rfl ?_
  refine r_getI hK d_Lk_goBackToStart_10 f_Lk_35 rfl (in_lk rfl (by assumption)) rfl rfl (v := nI a) (by simp [up_eq, h7]) ?_
  refine r_putI hK d_Lk_goBackToStart_13 f_Lk_51 rfl (in_lk rfl (by assumption)) rfl rfl rfl rfl ?_
  refine r_aload_n hK d_Lk_goBackToStart_16 rfl rfl ?_
  refine r_aload_n hK d_Lk_goBackToStart_17 rfl rfl ?_
  refine r_getI hK d_Lk_goBackToStart_18 f_Lk_35 rfl (in_lk rfl (by assumption)) rfl rfl (v := nI a) (by simp [up_eq, h7]) ?_
  refine r_putI hK d_Lk_goBackToStart_21 f_Lk_38 rfl (in_lk rfl (by assumption)) rfl rfl rfl rfl ?_
  refine r_aload_n hK d_Lk_goBackToStart_24 rfl rfl ?_
  refine r_iload_n hK d_Lk_goBackToStart_25 rfl rfl ?_
  refine r_putI hK d_Lk_goBackToStart_26 f_Lk_48 rfl (in_lk rfl (by assumption)) rfl rfl rfl rfl ?_
  refine r_iconst (v := nI 0) hK d_Lk_goBackToStart_29 (by decide) ?_
  refine r_istore_n hK d_Lk_goBackToStart_30 rfl rfl rfl ?_
  rw [hS]
  have h0 := hloop 32 0 (by omega)
  rw [upr_id (σ := S) (by funext j; rw [h15]; rfl)] at h0
  exact h0
end Lk2
