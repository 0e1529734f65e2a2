section Nt
variable {l : Launch} {g : Gc} {σ : Sg}
theorem c_Nt_kindOf (hg : Gok g) {c : Nat} (hc : c < 2 ^ 31) : CI l g y_Nt_kindOf 0 [.int (nI c)] σ (nI (c % 2)) σ := by
  refine ofK hg w_cd_Nt_kindOf (by decide) (by decide) (by first | decide | simp) (by simp [Value.category]) ?_
  intro K hK hR
  have hK : Gd l g "GradientShards$Net" b_Nt_kindOf 1 _ K := hK
  refine r_iload_n hK d_Nt_kindOf_0 rfl rfl ?_
  refine r_iconst (v := nI 1) hK d_Nt_kindOf_1 (by decide) ?_
  refine r_iand hK d_Nt_kindOf_2 (nz_and (by omega) 1 (by decide)) ?_
  exact hR.i d_Nt_kindOf_3 rfl (⟨rfl, rfl⟩)
theorem c_Nt_workerOf (hg : Gok g) {c : Nat} (hc : c < 2 ^ 31) : CI l g y_Nt_workerOf 0 [.int (nI c)] σ (nI (c / 2 % 4)) σ := by
  refine ofK hg w_cd_Nt_workerOf (by decide) (by decide) (by first | decide | simp) (by simp [Value.category]) ?_
  intro K hK hR
  have hK : Gd l g "GradientShards$Net" b_Nt_workerOf 1 _ K := hK
  refine r_iload_n hK d_Nt_workerOf_0 rfl rfl ?_
  refine r_iconst (v := nI 1) hK d_Nt_workerOf_1 (by decide) ?_
  refine r_ishr hK d_Nt_workerOf_2 (nz_shr (by omega) (by decide)) ?_
  refine r_iconst (v := nI 3) hK d_Nt_workerOf_3 (by decide) ?_
  refine r_iand hK d_Nt_workerOf_4 (nz_and (by omega) 2 (by decide)) ?_
  exact hR.i d_Nt_workerOf_5 rfl (⟨rfl, rfl⟩)
theorem c_Nt_shardOf (hg : Gok g) {c : Nat} (hc : c < 2 ^ 31) : CI l g y_Nt_shardOf 0 [.int (nI c)] σ (nI (c / 8 % 4)) σ := by
  refine ofK hg w_cd_Nt_shardOf (by decide) (by decide) (by first | decide | simp) (by simp [Value.category]) ?_
  intro K hK hR
  have hK : Gd l g "GradientShards$Net" b_Nt_shardOf 1 _ K := hK
  refine r_iload_n hK d_Nt_shardOf_0 rfl rfl ?_
  refine r_iconst (v := nI 3) hK d_Nt_shardOf_1 (by decide) ?_
  refine r_ishr hK d_Nt_shardOf_2 (nz_shr (by omega) (by decide)) ?_
  refine r_iconst (v := nI 3) hK d_Nt_shardOf_3 (by decide) ?_
  refine r_iand hK d_Nt_shardOf_4 (nz_and (by omega) 2 (by decide)) ?_
  exact hR.i d_Nt_shardOf_5 rfl (⟨rfl, rfl⟩)
theorem c_Nt_numberOf (hg : Gok g) {c : Nat} (hc : c < 2 ^ 31) : CI l g y_Nt_numberOf 0 [.int (nI c)] σ (nI (c / 32)) σ := by
  refine ofK hg w_cd_Nt_numberOf (by decide) (by decide) (by first | decide | simp) (by simp [Value.category]) ?_
  intro K hK hR
  have hK : Gd l g "GradientShards$Net" b_Nt_numberOf 1 _ K := hK
  refine r_iload_n hK d_Nt_numberOf_0 rfl rfl ?_
  refine r_iconst (v := nI 5) hK d_Nt_numberOf_1 (by decide) ?_
  refine r_ishr hK d_Nt_numberOf_2 (nz_shr (by omega) (by decide)) ?_
  exact hR.i d_Nt_numberOf_3 rfl (⟨rfl, rfl⟩)
theorem c_Nt_codeOf (hg : Gok g) {k n x w h : Nat} (hl : x < 3 * g.2.1) (h0 : σ 11 x 0 = nI w) (h1 : σ 11 x 1 = nI h) : CI l g y_Nt_codeOf 0 [.int (nI k), .ref (g.1 11 x), .int (nI n)] σ (nI (k + 2 * w + 8 * h + 32 * n)) σ := by
  refine ofK hg w_cd_Nt_codeOf (by decide) (by decide) (by first | decide | simp) (by simp [Value.category]) ?_
  intro K hK hR
  have hK : Gd l g "GradientShards$Net" b_Nt_codeOf 3 _ K := hK
  refine r_iload_n hK d_Nt_codeOf_0 rfl rfl ?_
  refine r_iconst (v := nI 2) hK d_Nt_codeOf_1 (by decide) ?_
  refine r_aload_n hK d_Nt_codeOf_2 rfl rfl ?_
  refine r_getI hK d_Nt_codeOf_3 f_Nt_15 rfl (in_lk rfl (by assumption)) rfl rfl h0 ?_
  refine r_imul hK d_Nt_codeOf_6 (pk_mul _ _) ?_
  refine r_iadd hK d_Nt_codeOf_7 (nI_add _ _) ?_
  refine r_bipush (v := nI 8) hK d_Nt_codeOf_8 (by decide) ?_
  refine r_aload_n hK d_Nt_codeOf_10 rfl rfl ?_
  refine r_getI hK d_Nt_codeOf_11 f_Nt_21 rfl (in_lk rfl (by assumption)) rfl rfl h1 ?_
  refine r_imul hK d_Nt_codeOf_14 (pk_mul _ _) ?_
  refine r_iadd hK d_Nt_codeOf_15 (nI_add _ _) ?_
  refine r_bipush (v := nI 32) hK d_Nt_codeOf_16 (by decide) ?_
  refine r_iload_n hK d_Nt_codeOf_18 rfl rfl ?_
  refine r_imul hK d_Nt_codeOf_19 (pk_mul _ _) ?_
  refine r_iadd hK d_Nt_codeOf_20 (nI_add _ _) ?_
  exact hR.i d_Nt_codeOf_21 rfl (⟨rfl, rfl⟩)
theorem c_Nt_holds_t (hg : Gok g) {j n : Nat} (hs : σ 3 0 1 = nI n) (hj : j < n) (hn : n ≤ 24) : CI l g y_Nt_holds 0 [.ref (g.1 3 0), .int (nI j)] σ (nI 1) σ := by
  refine ofK hg w_cd_Nt_holds (by decide) (by decide) (by first | decide | simp) (by simp [Value.category]) ?_
  intro K hK hR
  have hK : Gd l g "GradientShards$Net" b_Nt_holds 2 _ K := hK
  refine r_iload_n hK d_Nt_holds_0 rfl rfl ?_
  refine r_if_lt (tgt := 16) hK d_Nt_holds_1 (by decide) (fun hno => absurd hno (nI_pos (by omega))) (fun _ => ?_)
  refine r_iload_n hK d_Nt_holds_4 rfl rfl ?_
  refine r_aload_n hK d_Nt_holds_5 rfl rfl ?_
  refine r_getI hK d_Nt_holds_6 f_Nt_24 rfl (in_fix rfl) rfl rfl hs ?_
  refine rn_icmp_ge (tgt := 16) hK d_Nt_holds_9 (by decide) (by first | omega | (split <;> omega)) (by first | omega | (split <;> omega)) (fun hno => absurd hno (by omega)) (fun _ => ?_)
  refine r_iconst (v := nI 1) hK d_Nt_holds_12 (by decide) ?_
  refine r_goto (tgt := 17) hK d_Nt_holds_13 (by decide) ?_
  exact hR.i d_Nt_holds_17 rfl (⟨rfl, rfl⟩)
theorem c_Nt_holds_f (hg : Gok g) {i : Int32} {n : Nat} (hs : σ 3 0 1 = nI n) (hi : i < 0 ∨ nI n ≤ i) : CI l g y_Nt_holds 0 [.ref (g.1 3 0), .int i] σ (nI 0) σ := by
  refine ofK hg w_cd_Nt_holds (by decide) (by decide) (by first | decide | simp) (by simp [Value.category]) ?_
  intro K hK hR
  have hK : Gd l g "GradientShards$Net" b_Nt_holds 2 _ K := hK
  refine r_iload_n hK d_Nt_holds_0 rfl rfl ?_
  refine r_if_lt (tgt := 16) hK d_Nt_holds_1 (by decide) (fun h1 => ?_) (fun h1 => ?_)
  · refine r_iconst (v := nI 0) hK d_Nt_holds_16 (by decide) ?_
    exact hR.i d_Nt_holds_17 rfl (⟨rfl, rfl⟩)
  · refine r_iload_n hK d_Nt_holds_4 rfl rfl ?_
    refine r_aload_n hK d_Nt_holds_5 rfl rfl ?_
    refine r_getI hK d_Nt_holds_6 f_Nt_24 rfl (in_fix rfl) rfl rfl hs ?_
    refine r_icmp_ge (tgt := 16) hK d_Nt_holds_9 (by decide) (fun _ => ?_) (fun hno => absurd (hi.resolve_left h1) hno)
    refine r_iconst (v := nI 0) hK d_Nt_holds_16 (by decide) ?_
    exact hR.i d_Nt_holds_17 rfl (⟨rfl, rfl⟩)
theorem c_Nt_isFull (hg : Gok g) {n : Nat} (hs : σ 3 0 1 = nI n) (hn : n ≤ 24) : CI l g y_Nt_isFull 0 [.ref (g.1 3 0)] σ (nI (if n < 24 then 0 else 1)) σ := by
  refine ofK hg w_cd_Nt_isFull (by decide) (by decide) (by first | decide | simp) (by simp [Value.category]) ?_
  intro K hK hR
  have hK : Gd l g "GradientShards$Net" b_Nt_isFull 1 _ K := hK
  refine r_aload_n hK d_Nt_isFull_0 rfl rfl ?_
  refine r_getI hK d_Nt_isFull_1 f_Nt_24 rfl (in_fix rfl) rfl rfl hs ?_
  refine r_bipush (v := nI 24) hK d_Nt_isFull_4 (by decide) ?_
  refine rn_icmp_lt (tgt := 13) hK d_Nt_isFull_6 (by decide) (by first | omega | (split <;> omega)) (by first | omega | (split <;> omega)) (fun h1 => ?_) (fun h1 => ?_)
  · refine r_iconst (v := nI 0) hK d_Nt_isFull_13 (by decide) ?_
    exact hR.i d_Nt_isFull_14 rfl (⟨by simp [h1], rfl⟩)
  · have h1 : ¬ n < 24 := by omega
    refine r_iconst (v := nI 1) hK d_Nt_isFull_9 (by decide) ?_
    refine r_goto (tgt := 14) hK d_Nt_isFull_10 (by decide) ?_
    exact hR.i d_Nt_isFull_14 rfl (⟨by simp [h1], rfl⟩)
theorem c_Nt_send (hg : Gok g) {c : Int32} {n : Nat} (hs : σ 3 0 1 = nI n) (hn : n ≤ 24) : CV l g y_Nt_send 1 [.ref (g.1 3 0), .int c] σ (sdC σ n c) := by
  refine ofK hg w_cd_Nt_send (by decide) (by decide) (by first | decide | simp) (by simp [Value.category]) ?_
  intro K hK hR
  have hK : Gd l g "GradientShards$Net" b_Nt_send 2 _ K := hK
  refine r_aload_n hK d_Nt_send_0 rfl rfl ?_
  refine r_dup hK d_Nt_send_1 rfl ?_
  refine r_getI hK d_Nt_send_2 f_Nt_27 rfl (in_fix rfl) rfl rfl rfl ?_
  refine r_iconst (v := nI 1) hK d_Nt_send_5 (by decide) ?_
  refine r_iadd hK d_Nt_send_6 rfl ?_
  refine r_putI hK d_Nt_send_7 f_Nt_27 rfl (in_fix rfl) rfl rfl rfl rfl ?_
  refine r_aload_n hK d_Nt_send_10 rfl rfl ?_
  refine r_callVI hK d_Nt_send_11 m_Nt_30 rfl (in_fix rfl) (c_Nt_isFull hg (n := n) (by simp [up_eq, hs]) hn) (by decide) rfl rfl rfl ?_
  refine rn_if_eq (tgt := 30) hK d_Nt_send_14 (by decide) (by first | omega | (split <;> omega)) (fun h1 => ?_) (fun h1 => ?_)
  · have h2 : n < 24 := by split at h1 <;> omega
    refine r_aload_n hK d_Nt_send_30 rfl rfl ?_
    refine r_getR hK d_Nt_send_31 f_Nt_9 rfl (in_fix rfl) rfl rfl ?_
    refine r_aload_n hK d_Nt_send_34 rfl rfl ?_
    refine r_getI hK d_Nt_send_35 f_Nt_24 rfl (in_fix rfl) rfl rfl (v := nI n) (by simp [up_eq, hs]) ?_
    refine r_iload_n hK d_Nt_send_38 rfl rfl ?_
    refine r_iast hK d_Nt_send_39 rfl rfl (in_fix rfl) (ix_nI (j := n) (by omega)) h2 ?_
    refine r_aload_n hK d_Nt_send_40 rfl rfl ?_
    refine r_dup hK d_Nt_send_41 rfl ?_
    refine r_getI hK d_Nt_send_42 f_Nt_24 rfl (in_fix rfl) rfl rfl (v := nI n) (by simp [up_eq, hs]) ?_
    refine r_iconst (v := nI 1) hK d_Nt_send_45 (by decide) ?_
    refine r_iadd hK d_Nt_send_46 (nI_add n 1) ?_
    refine r_putI hK d_Nt_send_47 f_Nt_24 rfl (in_fix rfl) rfl rfl rfl rfl ?_
    exact hR.v d_Nt_send_50 (⟨rfl, by unfold sdC; first | rw [if_pos h2] | rw [if_neg h2]⟩)
  · have h2 : ¬ n < 24 := by split at h1 <;> omega
    refine r_aload_n hK d_Nt_send_17 rfl rfl ?_
    refine r_dup hK d_Nt_send_18 rfl ?_
    refine r_getI hK d_Nt_send_19 f_Nt_34 rfl (in_fix rfl) rfl rfl (v := σ 3 0 3) (by simp [up_eq]) ?_
    refine r_iconst (v := nI 1) hK d_Nt_send_22 (by decide) ?_
    refine r_iadd hK d_Nt_send_23 rfl ?_
    refine r_putI hK d_Nt_send_24 f_Nt_34 rfl (in_fix rfl) rfl rfl rfl rfl ?_
    refine r_goto (tgt := 50) hK d_Nt_send_27 (by decide) ?_
    exact hR.v d_Nt_send_50 (⟨rfl, by unfold sdC; first | rw [if_pos h2] | rw [if_neg h2]⟩)
theorem c_Nt_remove (hg : Gok g) {j n : Nat} (hs : σ 3 0 1 = nI n) (hj : j < n) (hn : n ≤ 24) : CV l g y_Nt_remove 1 [.ref (g.1 3 0), .int (nI j)] σ (rmC σ n j) := by
  refine ofK hg w_cd_Nt_remove (by decide) (by decide) (by first | decide | simp) (by simp [Value.category]) ?_
  intro K hK hR
  have hK : Gd l g "GradientShards$Net" b_Nt_remove 2 _ K := hK
  refine r_aload_n hK d_Nt_remove_0 rfl rfl ?_
  refine r_dup hK d_Nt_remove_1 rfl ?_
  refine r_getI hK d_Nt_remove_2 f_Nt_24 rfl (in_fix rfl) rfl rfl hs ?_
  refine r_iconst (v := nI 1) hK d_Nt_remove_5 (by decide) ?_
  refine r_isub hK d_Nt_remove_6 (pk_sub (by omega)) ?_
  refine r_putI hK d_Nt_remove_7 f_Nt_24 rfl (in_fix rfl) rfl rfl rfl rfl ?_
  refine r_aload_n hK d_Nt_remove_10 rfl rfl ?_
  refine r_getR hK d_Nt_remove_11 f_Nt_9 rfl (in_fix rfl) rfl rfl ?_
  refine r_iload_n hK d_Nt_remove_14 rfl rfl ?_
  refine r_iconst (v := nI 1) hK d_Nt_remove_15 (by decide) ?_
  refine r_iadd hK d_Nt_remove_16 (nI_add _ _) ?_
  refine r_aload_n hK d_Nt_remove_17 rfl rfl ?_
  refine r_getR hK d_Nt_remove_18 f_Nt_9 rfl (in_fix rfl) rfl rfl ?_
  refine r_iload_n hK d_Nt_remove_21 rfl rfl ?_
  refine r_aload_n hK d_Nt_remove_22 rfl rfl ?_
  refine r_getI hK d_Nt_remove_23 f_Nt_24 rfl (in_fix rfl) rfl rfl (v := nI (n - 1)) (by simp [up_eq]) ?_
  refine r_iload_n hK d_Nt_remove_26 rfl rfl ?_
  refine r_isub hK d_Nt_remove_27 (pk_sub (by omega)) ?_
  refine r_copy hK d_Nt_remove_28 a_Nt_37 (by decide) rfl rfl rfl rfl (in_fix rfl) (in_fix rfl) (ix_nI (by omega)) (ix_nI (by omega)) (ix_nI (by omega)) (by show j + 1 + (n - 1 - j) ≤ 24; omega) (by show j + (n - 1 - j) ≤ 24; omega) (Nat.le_of_ble_eq_true rfl) ?_
  exact hR.v d_Nt_remove_31 (⟨rfl, by unfold rmC; rw [up_k (by decide)]⟩)
end Nt
