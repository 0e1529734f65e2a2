section Lk
variable {l : Launch} {g : Gc} {σ : Sg} {x : Nat}
theorem c_Lk_slotOf (hg : Gok g) {n : Nat} (hn : n < 2 ^ 31) : CI l g y_Lk_slotOf 0 [.int (nI n)] σ (nI (n % 32)) σ := by
  refine ofK hg w_cd_Lk_slotOf (by decide) (by decide) (by first | decide | simp) (by simp [Value.category]) ?_
  intro K hK hR
  have hK : Gd l g "GradientShards$Link" b_Lk_slotOf 1 _ K := hK
  refine r_iload_n hK d_Lk_slotOf_0 rfl rfl ?_
  refine r_bipush (v := nI 31) hK d_Lk_slotOf_1 (by decide) ?_
  refine r_iand hK d_Lk_slotOf_3 (nz_and (by omega) 5 (by decide)) ?_
  exact hR.i d_Lk_slotOf_4 rfl (⟨rfl, rfl⟩)
theorem c_Lk_keptNumber (hg : Gok g) (hx : x < 3 * g.2.1) {a b : Nat} (h6 : σ 11 x 6 = nI a) (h7 : σ 11 x 7 = nI b) (hle : b ≤ a) : CI l g y_Lk_keptNumber 0 [.ref (g.1 11 x)] σ (nI (a - b)) σ := by
  refine ofK hg w_cd_Lk_keptNumber (by decide) (by decide) (by first | decide | simp) (by simp [Value.category]) ?_
  intro K hK hR
  have hK : Gd l g "GradientShards$Link" b_Lk_keptNumber 1 _ K := hK
  refine r_aload_n hK d_Lk_keptNumber_0 rfl rfl ?_
  refine r_getI hK d_Lk_keptNumber_1 f_Lk_32 rfl (in_lk rfl (by assumption)) rfl rfl h6 ?_
  refine r_aload_n hK d_Lk_keptNumber_4 rfl rfl ?_
  refine r_getI hK d_Lk_keptNumber_5 f_Lk_35 rfl (in_lk rfl (by assumption)) rfl rfl h7 ?_
  refine r_isub hK d_Lk_keptNumber_8 (pk_sub (by omega)) ?_
  exact hR.i d_Lk_keptNumber_9 rfl (⟨rfl, rfl⟩)
theorem c_Lk_unconfirmedNumber (hg : Gok g) (hx : x < 3 * g.2.1) {a b : Nat} (h6 : σ 11 x 6 = nI a) (h8 : σ 11 x 8 = nI b) (hle : b ≤ a) : CI l g y_Lk_unconfirmedNumber 0 [.ref (g.1 11 x)] σ (nI (a - b)) σ := by
  refine ofK hg w_cd_Lk_unconfirmedNumber (by decide) (by decide) (by first | decide | simp) (by simp [Value.category]) ?_
  intro K hK hR
  have hK : Gd l g "GradientShards$Link" b_Lk_unconfirmedNumber 1 _ K := hK
  refine r_aload_n hK d_Lk_unconfirmedNumber_0 rfl rfl ?_
  refine r_getI hK d_Lk_unconfirmedNumber_1 f_Lk_32 rfl (in_lk rfl (by assumption)) rfl rfl h6 ?_
  refine r_aload_n hK d_Lk_unconfirmedNumber_4 rfl rfl ?_
  refine r_getI hK d_Lk_unconfirmedNumber_5 f_Lk_38 rfl (in_lk rfl (by assumption)) rfl rfl h8 ?_
  refine r_isub hK d_Lk_unconfirmedNumber_8 (pk_sub (by omega)) ?_
  exact hR.i d_Lk_unconfirmedNumber_9 rfl (⟨rfl, rfl⟩)
theorem c_Lk_append (hg : Gok g) (hx : x < 3 * g.2.1) {n : Nat} {p q : Int32} (h6 : σ 11 x 6 = nI n) (hn : n < 2 ^ 30) : CI l g y_Lk_append 1 [.ref (g.1 11 x), .int p, .int q] σ (nI n) (apC σ x n p q) := by
  have h32 : n % 32 < 32 := Nat.mod_lt _ (by decide)
  refine ofK hg w_cd_Lk_append (by decide) (by decide) (by first | decide | simp) (by simp [Value.category]) ?_
  intro K hK hR
  have hK : Gd l g "GradientShards$Link" b_Lk_append 5 _ K := hK
  refine r_aload_n hK d_Lk_append_0 rfl rfl ?_
  refine r_getI hK d_Lk_append_1 f_Lk_32 rfl (in_lk rfl (by assumption)) rfl rfl h6 ?_
  refine r_istore_n hK d_Lk_append_4 rfl rfl rfl ?_
  refine r_iload_n hK d_Lk_append_5 rfl rfl ?_
  refine r_callSI hK d_Lk_append_6 m_Lk_41 (c_Lk_slotOf hg (n := n) (by omega)) (by decide) rfl rfl rfl ?_
  refine r_istore hK d_Lk_append_9 rfl rfl ?_
  refine r_aload_n hK d_Lk_append_11 rfl rfl ?_
  refine r_getR hK d_Lk_append_12 f_Lk_11 rfl (in_lk rfl (by assumption)) rfl rfl ?_
  refine r_iload hK d_Lk_append_15 rfl ?_
  refine r_iload_n hK d_Lk_append_17 rfl rfl ?_
  refine r_iast hK d_Lk_append_18 rfl rfl (in_lk rfl (by assumption)) (ix_nI (j := n % 32) (by omega)) h32 ?_
  refine r_aload_n hK d_Lk_append_19 rfl rfl ?_
  refine r_getR hK d_Lk_append_20 f_Lk_15 rfl (in_lk rfl (by assumption)) rfl rfl ?_
  refine r_iload hK d_Lk_append_23 rfl ?_
  refine r_iload_n hK d_Lk_append_25 rfl rfl ?_
  refine r_iast hK d_Lk_append_26 rfl rfl (in_lk rfl (by assumption)) (ix_nI (j := n % 32) (by omega)) h32 ?_
  refine r_aload_n hK d_Lk_append_27 rfl rfl ?_
  refine r_getR hK d_Lk_append_28 f_Lk_21 rfl (in_lk rfl (by assumption)) rfl rfl ?_
  refine r_iload hK d_Lk_append_31 rfl ?_
  refine r_iconst (v := nI 0) hK d_Lk_append_33 (by decide) ?_
  refine r_zast hK d_Lk_append_34 rfl rfl (in_lk rfl (by assumption)) (ix_nI (j := n % 32) (by omega)) h32 rfl ?_
  refine r_aload_n hK d_Lk_append_35 rfl rfl ?_
  refine r_dup hK d_Lk_append_36 rfl ?_
  refine r_getI hK d_Lk_append_37 f_Lk_32 rfl (in_lk rfl (by assumption)) rfl rfl (v := nI n) (by simp [up_eq, h6]) ?_
  refine r_iconst (v := nI 1) hK d_Lk_append_40 (by decide) ?_
  refine r_iadd hK d_Lk_append_41 (nI_add _ _) ?_
  refine r_putI hK d_Lk_append_42 f_Lk_32 rfl (in_lk rfl (by assumption)) rfl rfl rfl rfl ?_
  refine r_iload_n hK d_Lk_append_45 rfl rfl ?_
  exact hR.i d_Lk_append_46 rfl (⟨rfl, rfl⟩)
theorem c_Lk_noteSending (hg : Gok g) (hx : x < 3 * g.2.1) {n : Nat} {t : Int32} (hn : n < 2 ^ 30) : CV l g y_Lk_noteSending 1 [.ref (g.1 11 x), .int (nI n), .int t] σ (up σ 14 x (n % 32) t) := by
  have h32 : n % 32 < 32 := Nat.mod_lt _ (by decide)
  refine ofK hg w_cd_Lk_noteSending (by decide) (by decide) (by first | decide | simp) (by simp [Value.category]) ?_
  intro K hK hR
  have hK : Gd l g "GradientShards$Link" b_Lk_noteSending 3 _ K := hK
  refine r_aload_n hK d_Lk_noteSending_0 rfl rfl ?_
  refine r_getR hK d_Lk_noteSending_1 f_Lk_18 rfl (in_lk rfl (by assumption)) rfl rfl ?_
  refine r_iload_n hK d_Lk_noteSending_4 rfl rfl ?_
  refine r_callSI hK d_Lk_noteSending_5 m_Lk_41 (c_Lk_slotOf hg (n := n) (by omega)) (by decide) rfl rfl rfl ?_
  refine r_iload_n hK d_Lk_noteSending_8 rfl rfl ?_
  refine r_iast hK d_Lk_noteSending_9 rfl rfl (in_lk rfl (by assumption)) (ix_nI (j := n % 32) (by omega)) h32 ?_
  exact hR.v d_Lk_noteSending_10 (⟨rfl, rfl⟩)
theorem c_Lk_isDueAgain (hg : Gok g) (hx : x < 3 * g.2.1) {a b s t : Nat} (h6 : σ 11 x 6 = nI a) (h8 : σ 11 x 8 = nI b) (hs : σ 14 x (b % 32) = nI s) (hst : s ≤ t) (ha : a < 2 ^ 30) (hb : b < 2 ^ 30) (ht : t < 2 ^ 30) : CI l g y_Lk_isDueAgain 1 [.ref (g.1 11 x), .int (nI t)] σ (nI (if b < a ∧ s + 3 ≤ t then 1 else 0)) σ := by
  have h32 : b % 32 < 32 := Nat.mod_lt _ (by decide)
  refine ofK hg w_cd_Lk_isDueAgain (by decide) (by decide) (by first | decide | simp) (by simp [Value.category]) ?_
  intro K hK hR
  have hK : Gd l g "GradientShards$Link" b_Lk_isDueAgain 2 _ K := hK
  refine r_aload_n hK d_Lk_isDueAgain_0 rfl rfl ?_
  refine r_getI hK d_Lk_isDueAgain_1 f_Lk_38 rfl (in_lk rfl (by assumption)) rfl rfl h8 ?_
  refine r_aload_n hK d_Lk_isDueAgain_4 rfl rfl ?_
  refine r_getI hK d_Lk_isDueAgain_5 f_Lk_32 rfl (in_lk rfl (by assumption)) rfl rfl h6 ?_
  refine rn_icmp_ge (tgt := 33) hK d_Lk_isDueAgain_8 (by decide) (by first | omega | (split <;> omega)) (by first | omega | (split <;> omega)) (fun q1 => ?_) (fun q1 => ?_)
  · refine r_iconst (v := nI 0) hK d_Lk_isDueAgain_33 (by decide) ?_
    exact hR.i d_Lk_isDueAgain_34 rfl (⟨by first | rw [if_pos (by omega)] | rw [if_neg (by omega)], rfl⟩)
  · refine r_iload_n hK d_Lk_isDueAgain_11 rfl rfl ?_
    refine r_aload_n hK d_Lk_isDueAgain_12 rfl rfl ?_
    refine r_getR hK d_Lk_isDueAgain_13 f_Lk_18 rfl (in_lk rfl (by assumption)) rfl rfl ?_
    refine r_aload_n hK d_Lk_isDueAgain_16 rfl rfl ?_
    refine r_getI hK d_Lk_isDueAgain_17 f_Lk_38 rfl (in_lk rfl (by assumption)) rfl rfl h8 ?_
    refine r_callSI hK d_Lk_isDueAgain_20 m_Lk_41 (c_Lk_slotOf hg (n := b) (by omega)) (by decide) rfl rfl rfl ?_
    refine r_iald hK d_Lk_isDueAgain_23 rfl rfl (in_lk rfl (by assumption)) (ix_nI (j := b % 32) (by omega)) h32 hs ?_
    refine r_isub hK d_Lk_isDueAgain_24 (pk_sub (by omega)) ?_
    refine r_iconst (v := nI 3) hK d_Lk_isDueAgain_25 (by decide) ?_
    refine rn_icmp_lt (tgt := 33) hK d_Lk_isDueAgain_26 (by decide) (by first | omega | (split <;> omega)) (by first | omega | (split <;> omega)) (fun q2 => ?_) (fun q2 => ?_)
    · refine r_iconst (v := nI 0) hK d_Lk_isDueAgain_33 (by decide) ?_
      exact hR.i d_Lk_isDueAgain_34 rfl (⟨by first | rw [if_pos (by omega)] | rw [if_neg (by omega)], rfl⟩)
    · refine r_iconst (v := nI 1) hK d_Lk_isDueAgain_29 (by decide) ?_
      refine r_goto (tgt := 34) hK d_Lk_isDueAgain_30 (by decide) ?_
      exact hR.i d_Lk_isDueAgain_34 rfl (⟨by first | rw [if_pos (by omega)] | rw [if_neg (by omega)], rfl⟩)
theorem c_Lk_confirm_t (hg : Gok g) (hx : x < 3 * g.2.1) {n b : Nat} (h8 : σ 11 x 8 = nI b) (hlt : b < n) (hn : n < 2 ^ 30) : CI l g y_Lk_confirm 0 [.ref (g.1 11 x), .int (nI n)] σ (nI 1) (up σ 11 x 8 (nI n)) := by
  refine ofK hg w_cd_Lk_confirm (by decide) (by decide) (by first | decide | simp) (by simp [Value.category]) ?_
  intro K hK hR
  have hK : Gd l g "GradientShards$Link" b_Lk_confirm 2 _ K := hK
  refine r_iload_n hK d_Lk_confirm_0 rfl rfl ?_
  refine r_aload_n hK d_Lk_confirm_1 rfl rfl ?_
  refine r_getI hK d_Lk_confirm_2 f_Lk_38 rfl (in_lk rfl (by assumption)) rfl rfl h8 ?_
  refine rn_icmp_gt (tgt := 10) hK d_Lk_confirm_5 (by decide) (by first | omega | (split <;> omega)) (by first | omega | (split <;> omega)) (fun _ => ?_) (fun hno => absurd hno (by omega))
  refine r_aload_n hK d_Lk_confirm_10 rfl rfl ?_
  refine r_iload_n hK d_Lk_confirm_11 rfl rfl ?_
  refine r_putI hK d_Lk_confirm_12 f_Lk_38 rfl (in_lk rfl (by assumption)) rfl rfl rfl rfl ?_
  refine r_iconst (v := nI 1) hK d_Lk_confirm_15 (by decide) ?_
  exact hR.i d_Lk_confirm_16 rfl (⟨rfl, rfl⟩)
theorem c_Lk_confirm_f (hg : Gok g) (hx : x < 3 * g.2.1) {n b : Nat} (h8 : σ 11 x 8 = nI b) (hlt : n ≤ b) (hb : b < 2 ^ 30) : CI l g y_Lk_confirm 0 [.ref (g.1 11 x), .int (nI n)] σ (nI 0) σ := by
  refine ofK hg w_cd_Lk_confirm (by decide) (by decide) (by first | decide | simp) (by simp [Value.category]) ?_
  intro K hK hR
  have hK : Gd l g "GradientShards$Link" b_Lk_confirm 2 _ K := hK
  refine r_iload_n hK d_Lk_confirm_0 rfl rfl ?_
  refine r_aload_n hK d_Lk_confirm_1 rfl rfl ?_
  refine r_getI hK d_Lk_confirm_2 f_Lk_38 rfl (in_lk rfl (by assumption)) rfl rfl h8 ?_
  refine rn_icmp_gt (tgt := 10) hK d_Lk_confirm_5 (by decide) (by first | omega | (split <;> omega)) (by first | omega | (split <;> omega)) (fun hno => absurd hno (by omega)) (fun _ => ?_)
  refine r_iconst (v := nI 0) hK d_Lk_confirm_8 (by decide) ?_
  exact hR.i d_Lk_confirm_9 rfl (⟨rfl, rfl⟩)
theorem c_Lk_hasTaken (hg : Gok g) (hx : x < 3 * g.2.1) {n a t : Nat} (h9 : σ 11 x 9 = nI a) (ht : a ≤ n → σ 15 x (n % 32) = nI t) (ht1 : t ≤ 1) (ha : a < 2 ^ 30) (hn : n < 2 ^ 30) : CI l g y_Lk_hasTaken 1 [.ref (g.1 11 x), .int (nI n)] σ (nI (if n < a ∨ t = 1 then 1 else 0)) σ := by
  have h32 : n % 32 < 32 := Nat.mod_lt _ (by decide)
  refine ofK hg w_cd_Lk_hasTaken (by decide) (by decide) (by first | decide | simp) (by simp [Value.category]) ?_
  intro K hK hR
  have hK : Gd l g "GradientShards$Link" b_Lk_hasTaken 2 _ K := hK
  refine r_iload_n hK d_Lk_hasTaken_0 rfl rfl ?_
  refine r_aload_n hK d_Lk_hasTaken_1 rfl rfl ?_
  refine r_getI hK d_Lk_hasTaken_2 f_Lk_45 rfl (in_lk rfl (by assumption)) rfl rfl h9 ?_
  refine rn_icmp_lt (tgt := 20) hK d_Lk_hasTaken_5 (by decide) (by first | omega | (split <;> omega)) (by first | omega | (split <;> omega)) (fun q1 => ?_) (fun q1 => ?_)
  · refine r_iconst (v := nI 1) hK d_Lk_hasTaken_20 (by decide) ?_
    refine r_goto (tgt := 25) hK d_Lk_hasTaken_21 (by decide) ?_
    exact hR.i d_Lk_hasTaken_25 rfl (⟨by first | rw [if_pos (by omega)] | rw [if_neg (by omega)], rfl⟩)
  · refine r_aload_n hK d_Lk_hasTaken_8 rfl rfl ?_
    refine r_getR hK d_Lk_hasTaken_9 f_Lk_21 rfl (in_lk rfl (by assumption)) rfl rfl ?_
    refine r_iload_n hK d_Lk_hasTaken_12 rfl rfl ?_
    refine r_callSI hK d_Lk_hasTaken_13 m_Lk_41 (c_Lk_slotOf hg (n := n) (by omega)) (by decide) rfl rfl rfl ?_
    refine r_zald hK d_Lk_hasTaken_16 rfl rfl (in_lk rfl (by assumption)) (ix_nI (j := n % 32) (by omega)) h32 (ht (by omega)) ?_
    refine rn_if_eq (tgt := 24) hK d_Lk_hasTaken_17 (by decide) (by first | omega | (split <;> omega)) (fun q2 => ?_) (fun q2 => ?_)
    · refine r_iconst (v := nI 0) hK d_Lk_hasTaken_24 (by decide) ?_
      exact hR.i d_Lk_hasTaken_25 rfl (⟨by first | rw [if_pos (by omega)] | rw [if_neg (by omega)], rfl⟩)
    · refine r_iconst (v := nI 1) hK d_Lk_hasTaken_20 (by decide) ?_
      refine r_goto (tgt := 25) hK d_Lk_hasTaken_21 (by decide) ?_
      exact hR.i d_Lk_hasTaken_25 rfl (⟨by first | rw [if_pos (by omega)] | rw [if_neg (by omega)], rfl⟩)
end Lk
