/-! Shard -/
theorem sh_l : ∀ n, n < 32 → ((nI n &&& 31).toBitVec.smod 32).toNat = n := by decide +kernel
theorem r_root {l : Launch} {g : Gc} {own : String} {d : Nat} {K : Kt} {σ : Sg} (hK : Gd l g own b_Sh_rootOf 5 d K) {m r s q : Nat} (hm : m < 2 ^ 31) (hq : q ≤ 65536) (kt : m < q * q → K 28 [.int (nI m), .int (nI r), .int (nI s)] [] σ) (kf : q * q ≤ m → K 28 [.int (nI m), .int (nI q), .int (nI s)] [] σ) : K 14 [.int (nI m), .int (nI r), .int (nI s)] [.int (nI q)] σ := by
  obtain ⟨p, e, R, s0, m0, args, below, meth, c, cells, slots, Q, hx, hb, hml, hown, hts, hk, hNW, hg, hRm, rfl⟩ := hK
  intro H locs ls hl hc hP hS
  have hqq : q * q ≤ 65536 * 65536 := Nat.mul_le_mul hq hq
  refine lv_i2l hx hb d_Sh_rootOf_14 (nI_l (by omega)) ?_
  refine lv_lstore_n hx hb d_Sh_rootOf_15 rfl hl (by decide) rfl (fun ls1 h1 => ?_)
  have h1 : lv_has ls1 5 [(3, .long (lN q)), (0, .int (nI m)), (1, .int (nI r)), (2, .int (nI s))] := h1
  refine lv_lload_n hx hb d_Sh_rootOf_16 rfl (lv_at h1 0 rfl) ?_
  refine lv_lload_n hx hb d_Sh_rootOf_17 rfl (lv_at h1 0 rfl) ?_
  refine lv_lmul hx hb d_Sh_rootOf_18 ?_
  rw [lN_mul]
  refine lv_iload_n hx hb d_Sh_rootOf_19 rfl (lv_at h1 1 rfl) ?_
  refine lv_i2l hx hb d_Sh_rootOf_20 (nI_l hm) ?_
  refine W.lcmp hx hb d_Sh_rootOf_21 ?_
  refine lv_if_gt (tgt := 28) hx hb d_Sh_rootOf_22 (by decide) (fun h2 => ?_) (fun h2 => ?_)
  · rw [lg_cmp_gt, pk_lLT (by omega) (by omega)] at h2
    exact kt h2 H locs ls1 (lv_sub h1 [1, 2, 3] rfl) hc hP hS
  · rw [lg_cmp_gt, pk_lLT (by omega) (by omega)] at h2
    refine lv_lload_n hx hb d_Sh_rootOf_25 rfl (lv_at h1 0 rfl) ?_
    refine lv_l2i hx hb d_Sh_rootOf_26 (lN_i q) ?_
    refine lv_istore_n hx hb d_Sh_rootOf_27 rfl h1 (by decide) rfl (fun ls2 h3 => ?_)
    have h3 : lv_has ls2 5 [(1, .int (nI q)), (3, .long (lN q)), (0, .int (nI m)), (2, .int (nI s))] := h3
    exact kf (by omega) H locs ls2 (lv_sub h3 [2, 0, 3] rfl) (by simp [Value.category]) hP hS
section Sh
variable {l : Launch} {g : Gc} {σ : Sg} {h : Nat}
theorem c_Sh_rootOf (hg : Gok g) {m : Nat} (hm : m < 2 ^ 31) : CI l g y_Sh_rootOf 0 [.int (nI m)] σ (nI (isq m)) σ := by
  refine ofK hg w_cd_Sh_rootOf (by decide) (by decide) (by first | decide | simp) (by simp [Value.category]) ?_
  intro K hK hR
  have hK : Gd l g "GradientShards$Shard" b_Sh_rootOf 5 _ K := hK
  have hloop : ∀ k r v, r * r ≤ m → m < (r + 2 ^ k) * (r + 2 ^ k) → r + 2 ^ k ≤ 65536 → k ≤ 16 → v = nI k + (-1) → K 5 [.int (nI m), .int (nI r), .int v] [] σ := by
    intro k
    induction k with
    | zero =>
      intro r v h1 h2 h3 h4 hv
      have hv : v = -1 := by rw [hv]; decide
      subst hv
      refine r_iload_n hK d_Sh_rootOf_5 rfl rfl ?_
      refine r_if_lt (tgt := 34) hK d_Sh_rootOf_6 (by decide) (fun _ => ?_) (fun hno => absurd (by decide) hno)
      refine r_iload_n hK d_Sh_rootOf_34 rfl rfl ?_
      exact hR.i d_Sh_rootOf_35 rfl (⟨by rw [isq_eq h1 h2], rfl⟩)
    | succ k ih =>
      intro r v h1 h2 h3 h4 hv
      rw [pk_m1] at hv
      subst hv
      have e2 : 2 ^ (k + 1) = 2 ^ k + 2 ^ k := by rw [Nat.pow_succ]; omega
      have hp2 : 0 < 2 ^ k := Nat.two_pow_pos k
      have hk : 2 ^ k ≤ 65536 := by omega
      refine r_iload_n hK d_Sh_rootOf_5 rfl rfl ?_
      refine r_if_lt (tgt := 34) hK d_Sh_rootOf_6 (by decide) (fun hno => absurd hno (nI_pos (by omega))) (fun _ => ?_)
      refine r_iload_n hK d_Sh_rootOf_9 rfl rfl ?_
      refine r_iconst (v := nI 1) hK d_Sh_rootOf_10 (by decide) ?_
      refine r_iload_n hK d_Sh_rootOf_11 rfl rfl ?_
      refine r_ishl hK d_Sh_rootOf_12 (pk_shlN (n := 1) _ k (sh_l k (by omega)) (by omega)) ?_
      refine r_iadd hK d_Sh_rootOf_13 (nI_add _ _) ?_
      refine r_root hK hm (q := r + 1 * 2 ^ k) (by omega) (fun h5 => ?_) (fun h5 => ?_)
      · rw [Nat.one_mul] at h5
        refine r_iinc hK d_Sh_rootOf_28 rfl rfl rfl ?_
        refine r_goto (tgt := 5) hK d_Sh_rootOf_31 (by decide) ?_
        exact ih r _ h1 h5 (by omega) (by omega) rfl
      · rw [Nat.one_mul] at h5 ⊢
        refine r_iinc hK d_Sh_rootOf_28 rfl rfl rfl ?_
        refine r_goto (tgt := 5) hK d_Sh_rootOf_31 (by decide) ?_
        exact ih (r + 2 ^ k) _ h5 (by rw [Nat.add_assoc, ← e2]; exact h2) (by omega) (by omega) rfl
  refine r_iconst (v := nI 0) hK d_Sh_rootOf_0 (by decide) ?_
  refine r_istore_n hK d_Sh_rootOf_1 rfl rfl rfl ?_
  refine r_bipush (v := nI 15) hK d_Sh_rootOf_2 (by decide) ?_
  refine r_istore_n hK d_Sh_rootOf_4 rfl rfl rfl ?_
  exact hloop 16 0 _ (by omega) (by omega) (by decide) (by decide) rfl
theorem c_Sh_applySum (hg : Gok g) (hh : h < 3) {p ru : Nat} {s v m : Int32} (hp : p < 2) (hru : ru ≤ 2) (hr : σ 5 h 0 = nI ru) (hv : σ 7 h p = v) (hm : σ 8 h p = m) (hM : ru = 2 → ∃ M, M < 2 ^ 31 ∧ m + s * s = nI M) : CV l g y_Sh_applySum 1 [.ref (g.1 5 h), .int (nI p), .int s] σ (up (up σ 8 h p (stepR ru s (v, m)).2) 7 h p (stepR ru s (v, m)).1) := by
  have hix : Ix (nI p) p := ix_nI (by omega)
  refine ofK hg w_cd_Sh_applySum (by decide) (by decide) (by first | decide | simp) (by simp [Value.category]) ?_
  intro K hK hR
  have hK : Gd l g "GradientShards$Shard" b_Sh_applySum 3 _ K := hK
  rcases (by omega : ru = 0 ∨ ru = 1 ∨ ru = 2) with rfl | rfl | rfl
  · refine r_aload_n hK d_Sh_applySum_0 rfl rfl ?_
    refine r_getI hK d_Sh_applySum_1 f_Sh_28 rfl (in_sh rfl (by assumption)) rfl rfl hr ?_
    refine r_lookup (off := 111) (tgt := 115) hK d_Sh_applySum_4 (by decide) (by decide) (by decide) ?_
    refine r_aload_n hK d_Sh_applySum_115 rfl rfl ?_
    refine r_getR hK d_Sh_applySum_116 f_Sh_9 rfl (in_sh rfl (by assumption)) rfl rfl ?_
    refine r_iload_n hK d_Sh_applySum_119 rfl rfl ?_
    refine r_dup2 hK d_Sh_applySum_120 rfl rfl ?_
    refine r_iald hK d_Sh_applySum_121 rfl rfl (in_sh rfl (by assumption)) hix hp hv ?_
    refine r_iload_n hK d_Sh_applySum_122 rfl rfl ?_
    refine r_isub hK d_Sh_applySum_123 rfl ?_
    refine r_iast hK d_Sh_applySum_124 rfl rfl (in_sh rfl (by assumption)) hix hp ?_
    exact hR.v d_Sh_applySum_125 (⟨rfl, by rw [show (stepR 0 s (v, m)) = (v - s, m) from rfl, up_id hm]⟩)
  · refine r_aload_n hK d_Sh_applySum_0 rfl rfl ?_
    refine r_getI hK d_Sh_applySum_1 f_Sh_28 rfl (in_sh rfl (by assumption)) rfl rfl hr ?_
    refine r_lookup (off := 28) (tgt := 32) hK d_Sh_applySum_4 (by decide) (by decide) (by decide) ?_
    refine r_aload_n hK d_Sh_applySum_32 rfl rfl ?_
    refine r_getR hK d_Sh_applySum_33 f_Sh_15 rfl (in_sh rfl (by assumption)) rfl rfl ?_
    refine r_iload_n hK d_Sh_applySum_36 rfl rfl ?_
    refine r_aload_n hK d_Sh_applySum_37 rfl rfl ?_
    refine r_getR hK d_Sh_applySum_38 f_Sh_15 rfl (in_sh rfl (by assumption)) rfl rfl ?_
    refine r_iload_n hK d_Sh_applySum_41 rfl rfl ?_
    refine r_iald hK d_Sh_applySum_42 rfl rfl (in_sh rfl (by assumption)) hix hp hm ?_
    refine r_aload_n hK d_Sh_applySum_43 rfl rfl ?_
    refine r_getR hK d_Sh_applySum_44 f_Sh_15 rfl (in_sh rfl (by assumption)) rfl rfl ?_
    refine r_iload_n hK d_Sh_applySum_47 rfl rfl ?_
    refine r_iald hK d_Sh_applySum_48 rfl rfl (in_sh rfl (by assumption)) hix hp hm ?_
    refine r_iconst (v := nI 4) hK d_Sh_applySum_49 (by decide) ?_
    refine r_idiv hK d_Sh_applySum_50 (by decide) rfl ?_
    refine r_isub hK d_Sh_applySum_51 rfl ?_
    refine r_iload_n hK d_Sh_applySum_52 rfl rfl ?_
    refine r_iadd hK d_Sh_applySum_53 rfl ?_
    refine r_iast hK d_Sh_applySum_54 rfl rfl (in_sh rfl (by assumption)) hix hp ?_
    refine r_aload_n hK d_Sh_applySum_55 rfl rfl ?_
    refine r_getR hK d_Sh_applySum_56 f_Sh_9 rfl (in_sh rfl (by assumption)) rfl rfl ?_
    refine r_iload_n hK d_Sh_applySum_59 rfl rfl ?_
    refine r_dup2 hK d_Sh_applySum_60 rfl rfl ?_
    refine r_iald hK d_Sh_applySum_61 rfl rfl (in_sh rfl (by assumption)) hix hp (v := v) (by simp [up_eq, hv]) ?_
    refine r_aload_n hK d_Sh_applySum_62 rfl rfl ?_
    refine r_getR hK d_Sh_applySum_63 f_Sh_15 rfl (in_sh rfl (by assumption)) rfl rfl ?_
    refine r_iload_n hK d_Sh_applySum_66 rfl rfl ?_
    refine r_iald hK d_Sh_applySum_67 rfl rfl (in_sh rfl (by assumption)) hix hp (v := m - m / nI 4 + s) (by simp [up_eq]) ?_
    refine r_iconst (v := nI 2) hK d_Sh_applySum_68 (by decide) ?_
    refine r_idiv hK d_Sh_applySum_69 (by decide) rfl ?_
    refine r_isub hK d_Sh_applySum_70 rfl ?_
    refine r_iast hK d_Sh_applySum_71 rfl rfl (in_sh rfl (by assumption)) hix hp ?_
    refine r_goto (tgt := 125) hK d_Sh_applySum_72 (by decide) ?_
    exact hR.v d_Sh_applySum_125 (⟨rfl, rfl⟩)
  · obtain ⟨M, hM1, hM2⟩ := hM rfl
    have hi := isq_sq M
    have hi2 : isq M < 65536 := by
      apply Nat.not_le.mp
      intro q
      have := Nat.mul_le_mul q q
      omega
    refine r_aload_n hK d_Sh_applySum_0 rfl rfl ?_
    refine r_getI hK d_Sh_applySum_1 f_Sh_28 rfl (in_sh rfl (by assumption)) rfl rfl hr ?_
    refine r_lookup (off := 71) (tgt := 75) hK d_Sh_applySum_4 (by decide) (by decide) (by decide) ?_
    refine r_aload_n hK d_Sh_applySum_75 rfl rfl ?_
    refine r_getR hK d_Sh_applySum_76 f_Sh_15 rfl (in_sh rfl (by assumption)) rfl rfl ?_
    refine r_iload_n hK d_Sh_applySum_79 rfl rfl ?_
    refine r_dup2 hK d_Sh_applySum_80 rfl rfl ?_
    refine r_iald hK d_Sh_applySum_81 rfl rfl (in_sh rfl (by assumption)) hix hp hm ?_
    refine r_iload_n hK d_Sh_applySum_82 rfl rfl ?_
    refine r_iload_n hK d_Sh_applySum_83 rfl rfl ?_
    refine r_imul hK d_Sh_applySum_84 rfl ?_
    refine r_iadd hK d_Sh_applySum_85 rfl ?_
    refine r_iast hK d_Sh_applySum_86 rfl rfl (in_sh rfl (by assumption)) hix hp ?_
    refine r_aload_n hK d_Sh_applySum_87 rfl rfl ?_
    refine r_getR hK d_Sh_applySum_88 f_Sh_9 rfl (in_sh rfl (by assumption)) rfl rfl ?_
    refine r_iload_n hK d_Sh_applySum_91 rfl rfl ?_
    refine r_dup2 hK d_Sh_applySum_92 rfl rfl ?_
    refine r_iald hK d_Sh_applySum_93 rfl rfl (in_sh rfl (by assumption)) hix hp (v := v) (by simp [up_eq, hv]) ?_
    refine r_bipush (v := nI 64) hK d_Sh_applySum_94 (by decide) ?_
    refine r_iload_n hK d_Sh_applySum_96 rfl rfl ?_
    refine r_imul hK d_Sh_applySum_97 rfl ?_
    refine r_iconst (v := nI 1) hK d_Sh_applySum_98 (by decide) ?_
    refine r_aload_n hK d_Sh_applySum_99 rfl rfl ?_
    refine r_getR hK d_Sh_applySum_100 f_Sh_15 rfl (in_sh rfl (by assumption)) rfl rfl ?_
    refine r_iload_n hK d_Sh_applySum_103 rfl rfl ?_
    refine r_iald hK d_Sh_applySum_104 rfl rfl (in_sh rfl (by assumption)) hix hp (v := nI M) (by simp [up_eq, hM2]) ?_
    refine r_callSI hK d_Sh_applySum_105 m_Sh_76 (c_Sh_rootOf hg hM1) (by decide) rfl rfl rfl ?_
    refine r_iadd hK d_Sh_applySum_108 rfl ?_
    refine r_idiv hK d_Sh_applySum_109 (by rw [nI_add]; exact nI_ne0 (by omega) (by omega)) rfl ?_
    refine r_isub hK d_Sh_applySum_110 rfl ?_
    refine r_iast hK d_Sh_applySum_111 rfl rfl (in_sh rfl (by assumption)) hix hp ?_
    refine r_goto (tgt := 125) hK d_Sh_applySum_112 (by decide) ?_
    exact hR.v d_Sh_applySum_125 (⟨rfl, by rw [show (stepR 2 s (v, m)) = (v - nI 64 * s / (nI 1 + nI (isq (m + s * s).toNatClampNeg)), m + s * s) from rfl, hM2, nI_clamp hM1]⟩)
theorem c_Sh_sumOf (hg : Gok g) (hh : h < 3) {p : Nat} {F : Nat → Int32} (hw : g.2.1 ≤ 4) (hF : ∀ v, v < g.2.1 → CI l g y_Lk_contribution 1 [.ref (g.1 11 (3 * v + h)), .int (nI p)] σ (F v) σ) : CI l g y_Sh_sumOfContributions 2 [.ref (g.1 5 h), .int (nI p)] σ (gF F g.2.1) σ := by
  refine ofK hg w_cd_Sh_sumOfContributions (by decide) (by decide) (by first | decide | simp) (by simp [Value.category]) ?_
  intro K hK hR
  have hK : Gd l g "GradientShards$Shard" b_Sh_sumOfContributions 7 _ K := hK
  have hloop : ∀ d i, i + d = g.2.1 → K 14 [.ref (g.1 5 h), .int (nI p), .int (gF F i), .ref (g.1 6 h), .int (nI g.2.1), .int (nI i)] [] σ := by
    intro d
    induction d with
    | zero =>
      intro i hi
      obtain rfl : i = g.2.1 := by omega
      refine r_iload hK d_Sh_sumOfContributions_14 rfl ?_
      refine r_iload hK d_Sh_sumOfContributions_16 rfl ?_
      refine rn_icmp_ge (tgt := 45) hK d_Sh_sumOfContributions_18 (by decide) (by first | omega | (split <;> omega)) (by first | omega | (split <;> omega)) (fun _ => ?_) (fun hno => absurd hno (by omega))
      refine r_iload_n hK d_Sh_sumOfContributions_45 rfl rfl ?_
      exact hR.i d_Sh_sumOfContributions_46 rfl (⟨rfl, rfl⟩)
    | succ d ih =>
      intro i hi
      have hlk : 3 * i + h < 3 * g.2.1 := by omega
      refine r_iload hK d_Sh_sumOfContributions_14 rfl ?_
      refine r_iload hK d_Sh_sumOfContributions_16 rfl ?_
      refine rn_icmp_ge (tgt := 45) hK d_Sh_sumOfContributions_18 (by decide) (by first | omega | (split <;> omega)) (by first | omega | (split <;> omega)) (fun hno => absurd hno (by omega)) (fun _ => ?_)
      refine r_aload_n hK d_Sh_sumOfContributions_21 rfl rfl ?_
      refine r_iload hK d_Sh_sumOfContributions_22 rfl ?_
      refine r_aald hK d_Sh_sumOfContributions_24 rfl (Or.inr rfl) (in_sh rfl (by assumption)) (ix_nI (j := i) (by omega)) (by show i < g.2.1; omega) rfl ?_
      refine r_astore hK d_Sh_sumOfContributions_25 rfl rfl ?_
      refine r_iload_n hK d_Sh_sumOfContributions_27 rfl rfl ?_
      refine r_aload hK d_Sh_sumOfContributions_28 rfl ?_
      refine r_iload_n hK d_Sh_sumOfContributions_30 rfl rfl ?_
      refine r_callVI hK d_Sh_sumOfContributions_31 m_Sh_70 rfl (in_lk rfl (by assumption)) (hF i (by omega)) (by decide) rfl rfl rfl ?_
      refine r_iadd hK d_Sh_sumOfContributions_34 rfl ?_
      refine r_callSI hK d_Sh_sumOfContributions_35 m_Sh_73 (c_Gs_bounded hg _) (by decide) rfl rfl rfl ?_
      refine r_istore_n hK d_Sh_sumOfContributions_38 rfl rfl rfl ?_
      refine r_iinc hK d_Sh_sumOfContributions_39 rfl (nI_1 _) rfl ?_
      refine r_goto (tgt := 14) hK d_Sh_sumOfContributions_42 (by decide) ?_
      exact r_drop 6 hK (ih (i + 1) (by omega))
  refine r_iconst (v := nI 0) hK d_Sh_sumOfContributions_0 (by decide) ?_
  refine r_istore_n hK d_Sh_sumOfContributions_1 rfl rfl rfl ?_
  refine r_aload_n hK d_Sh_sumOfContributions_2 rfl rfl ?_
  refine r_getR hK d_Sh_sumOfContributions_3 f_Sh_34 rfl (in_sh rfl (by assumption)) rfl rfl ?_
  refine r_astore_n hK d_Sh_sumOfContributions_6 rfl rfl rfl ?_
  refine r_aload_n hK d_Sh_sumOfContributions_7 rfl rfl ?_
  refine r_alen hK d_Sh_sumOfContributions_8 rfl rfl (in_sh rfl (by assumption)) ?_
  refine r_istore hK d_Sh_sumOfContributions_9 rfl rfl ?_
  refine r_iconst (v := nI 0) hK d_Sh_sumOfContributions_11 (by decide) ?_
  refine r_istore hK d_Sh_sumOfContributions_12 rfl rfl ?_
  exact hloop g.2.1 0 (by omega)
theorem c_Sh_leastEnds (hg : Gok g) (hh : h < 3) {F : Nat → Nat} (hw : g.2.1 ≤ 4) (hw1 : 1 ≤ g.2.1) (hF : ∀ v, v < g.2.1 → σ 11 (3 * v + h) 10 = nI (F v)) (hb : ∀ v, v < g.2.1 → F v < 2 ^ 30) : CI l g y_Sh_leastEndsHandled 1 [.ref (g.1 5 h)] σ (nI (minF F (F 0) g.2.1)) σ := by
  refine ofK hg w_cd_Sh_leastEndsHandled (by decide) (by decide) (by first | decide | simp) (by simp [Value.category]) ?_
  intro K hK hR
  have hK : Gd l g "GradientShards$Shard" b_Sh_leastEndsHandled 6 _ K := hK
  have hloop : ∀ d i, i + d = g.2.1 → K 21 [.ref (g.1 5 h), .int (nI (minF F (F 0) i)), .ref (g.1 6 h), .int (nI g.2.1), .int (nI i)] [] σ := by
    intro d
    induction d with
    | zero =>
      intro i hi
      obtain rfl : i = g.2.1 := by omega
      refine r_iload hK d_Sh_leastEndsHandled_21 rfl ?_
      refine r_iload_n hK d_Sh_leastEndsHandled_23 rfl rfl ?_
      refine rn_icmp_ge (tgt := 49) hK d_Sh_leastEndsHandled_24 (by decide) (by first | omega | (split <;> omega)) (by first | omega | (split <;> omega)) (fun _ => ?_) (fun hno => absurd hno (by omega))
      refine r_iload_n hK d_Sh_leastEndsHandled_49 rfl rfl ?_
      exact hR.i d_Sh_leastEndsHandled_50 rfl (⟨rfl, rfl⟩)
    | succ d ih =>
      intro i hi
      have hlk : 3 * i + h < 3 * g.2.1 := by omega
      have hb0 := hb 0 (by omega)
      have hbi := hb i (by omega)
      have hml := minF_le F (F 0) i
      refine r_iload hK d_Sh_leastEndsHandled_21 rfl ?_
      refine r_iload_n hK d_Sh_leastEndsHandled_23 rfl rfl ?_
      refine rn_icmp_ge (tgt := 49) hK d_Sh_leastEndsHandled_24 (by decide) (by first | omega | (split <;> omega)) (by first | omega | (split <;> omega)) (fun hno => absurd hno (by omega)) (fun _ => ?_)
      refine r_aload_n hK d_Sh_leastEndsHandled_27 rfl rfl ?_
      refine r_iload hK d_Sh_leastEndsHandled_28 rfl ?_
      refine r_aald hK d_Sh_leastEndsHandled_30 rfl (Or.inr rfl) (in_sh rfl (by assumption)) (ix_nI (j := i) (by omega)) (by show i < g.2.1; omega) rfl ?_
      refine r_astore hK d_Sh_leastEndsHandled_31 rfl rfl ?_
      refine r_iload_n hK d_Sh_leastEndsHandled_33 rfl rfl ?_
      refine r_aload hK d_Sh_leastEndsHandled_34 rfl ?_
      refine r_getI hK d_Sh_leastEndsHandled_36 f_Sh_45 rfl (in_lk rfl (by assumption)) rfl rfl (hF i (by omega)) ?_
      refine r_mmin hK d_Sh_leastEndsHandled_39 a_Sh_48 (by decide) (Nat.le_of_ble_eq_true rfl) ?_
      rw [mn_nI (by omega) (by omega)]
      refine r_istore_n hK d_Sh_leastEndsHandled_42 rfl rfl rfl ?_
      refine r_iinc hK d_Sh_leastEndsHandled_43 rfl (nI_1 _) rfl ?_
      refine r_goto (tgt := 21) hK d_Sh_leastEndsHandled_46 (by decide) ?_
      exact r_drop 5 hK (ih (i + 1) (by omega))
  have hlk : 3 * 0 + h < 3 * g.2.1 := by omega
  refine r_aload_n hK d_Sh_leastEndsHandled_0 rfl rfl ?_
  refine r_getR hK d_Sh_leastEndsHandled_1 f_Sh_34 rfl (in_sh rfl (by assumption)) rfl rfl ?_
  refine r_iconst (v := nI 0) hK d_Sh_leastEndsHandled_4 (by decide) ?_
  refine r_aald hK d_Sh_leastEndsHandled_5 rfl (Or.inr rfl) (in_sh rfl (by assumption)) (ix_nI (j := 0) (by omega)) (by show 0 < g.2.1; omega) rfl ?_
  refine r_getI hK d_Sh_leastEndsHandled_6 f_Sh_45 rfl (in_lk rfl (by assumption)) rfl rfl (hF 0 (by omega)) ?_
  refine r_istore_n hK d_Sh_leastEndsHandled_9 rfl rfl rfl ?_
  refine r_aload_n hK d_Sh_leastEndsHandled_10 rfl rfl ?_
  refine r_getR hK d_Sh_leastEndsHandled_11 f_Sh_34 rfl (in_sh rfl (by assumption)) rfl rfl ?_
  refine r_astore_n hK d_Sh_leastEndsHandled_14 rfl rfl rfl ?_
  refine r_aload_n hK d_Sh_leastEndsHandled_15 rfl rfl ?_
  refine r_alen hK d_Sh_leastEndsHandled_16 rfl rfl (in_sh rfl (by assumption)) ?_
  refine r_istore_n hK d_Sh_leastEndsHandled_17 rfl rfl rfl ?_
  refine r_iconst (v := nI 0) hK d_Sh_leastEndsHandled_18 (by decide) ?_
  refine r_istore hK d_Sh_leastEndsHandled_19 rfl rfl ?_
  exact hloop g.2.1 0 (by omega)
theorem c_Sh_earlyNumber (hg : Gok g) (hh : h < 3) {F : Nat → Nat} (hw : g.2.1 ≤ 4) (hF : ∀ v, v < g.2.1 → CI l g y_Lk_earlyNumber 1 [.ref (g.1 11 (3 * v + h))] σ (nI (F v)) σ) : CI l g y_Sh_earlyNumber 2 [.ref (g.1 5 h)] σ (nI (totF F g.2.1)) σ := by
  refine ofK hg w_cd_Sh_earlyNumber (by decide) (by decide) (by first | decide | simp) (by simp [Value.category]) ?_
  intro K hK hR
  have hK : Gd l g "GradientShards$Shard" b_Sh_earlyNumber 6 _ K := hK
  have hloop : ∀ d i, i + d = g.2.1 → K 13 [.ref (g.1 5 h), .int (nI (totF F i)), .ref (g.1 6 h), .int (nI g.2.1), .int (nI i)] [] σ := by
    intro d
    induction d with
    | zero =>
      intro i hi
      obtain rfl : i = g.2.1 := by omega
      refine r_iload hK d_Sh_earlyNumber_13 rfl ?_
      refine r_iload_n hK d_Sh_earlyNumber_15 rfl rfl ?_
      refine rn_icmp_ge (tgt := 39) hK d_Sh_earlyNumber_16 (by decide) (by first | omega | (split <;> omega)) (by first | omega | (split <;> omega)) (fun _ => ?_) (fun hno => absurd hno (by omega))
      refine r_iload_n hK d_Sh_earlyNumber_39 rfl rfl ?_
      exact hR.i d_Sh_earlyNumber_40 rfl (⟨rfl, rfl⟩)
    | succ d ih =>
      intro i hi
      have hlk : 3 * i + h < 3 * g.2.1 := by omega
      refine r_iload hK d_Sh_earlyNumber_13 rfl ?_
      refine r_iload_n hK d_Sh_earlyNumber_15 rfl rfl ?_
      refine rn_icmp_ge (tgt := 39) hK d_Sh_earlyNumber_16 (by decide) (by first | omega | (split <;> omega)) (by first | omega | (split <;> omega)) (fun hno => absurd hno (by omega)) (fun _ => ?_)
      refine r_aload_n hK d_Sh_earlyNumber_19 rfl rfl ?_
      refine r_iload hK d_Sh_earlyNumber_20 rfl ?_
      refine r_aald hK d_Sh_earlyNumber_22 rfl (Or.inr rfl) (in_sh rfl (by assumption)) (ix_nI (j := i) (by omega)) (by show i < g.2.1; omega) rfl ?_
      refine r_astore hK d_Sh_earlyNumber_23 rfl rfl ?_
      refine r_iload_n hK d_Sh_earlyNumber_25 rfl rfl ?_
      refine r_aload hK d_Sh_earlyNumber_26 rfl ?_
      refine r_callVI hK d_Sh_earlyNumber_28 m_Sh_41 rfl (in_lk rfl (by assumption)) (hF i (by omega)) (by decide) rfl rfl rfl ?_
      refine r_iadd hK d_Sh_earlyNumber_31 (nI_add _ _) ?_
      refine r_istore_n hK d_Sh_earlyNumber_32 rfl rfl rfl ?_
      refine r_iinc hK d_Sh_earlyNumber_33 rfl (nI_1 _) rfl ?_
      refine r_goto (tgt := 13) hK d_Sh_earlyNumber_36 (by decide) ?_
      exact r_drop 5 hK (ih (i + 1) (by omega))
  refine r_iconst (v := nI 0) hK d_Sh_earlyNumber_0 (by decide) ?_
  refine r_istore_n hK d_Sh_earlyNumber_1 rfl rfl rfl ?_
  refine r_aload_n hK d_Sh_earlyNumber_2 rfl rfl ?_
  refine r_getR hK d_Sh_earlyNumber_3 f_Sh_34 rfl (in_sh rfl (by assumption)) rfl rfl ?_
  refine r_astore_n hK d_Sh_earlyNumber_6 rfl rfl rfl ?_
  refine r_aload_n hK d_Sh_earlyNumber_7 rfl rfl ?_
  refine r_alen hK d_Sh_earlyNumber_8 rfl rfl (in_sh rfl (by assumption)) ?_
  refine r_istore_n hK d_Sh_earlyNumber_9 rfl rfl rfl ?_
  refine r_iconst (v := nI 0) hK d_Sh_earlyNumber_10 (by decide) ?_
  refine r_istore hK d_Sh_earlyNumber_11 rfl rfl ?_
  exact hloop g.2.1 0 (by omega)
end Sh
