/-! GradientShards: public methods -/
section Gs3
variable {l : Launch} {g : Gc} {σ : Sg} {sl ru N : Nat} {s : Sp}
theorem c_Gs_deliver (hg : Gok g) (hC : CP g.2.1 sl ru s σ) (hA : AI g.2.1 N s) (hru : ru ≤ 2) (i : Int32) : Ct l g y_Gs_deliver 5 [.ref (g.1 0 0), .int i] σ (PC g.2.1 sl ru (dlvR s i) σ) := by
  obtain ⟨n1, n2, n3, n4⟩ := hC.2.1
  have hlen := hA.1.2.2.2.1
  rcases bad_or s.2.length (by omega) i with hb | ⟨j, hj, rfl⟩
  · have hres : dlvR s i = (s, -1) := if_pos hb
    rw [hres]
    refine ofK hg w_cd_Gs_deliver (by decide) (by decide) (by first | decide | simp) (by simp [Value.category]) ?_
    intro K hK hR
    have hK : Gd l g "GradientShards" b_Gs_deliver 5 _ K := hK
    refine r_aload_n hK d_Gs_deliver_0 rfl rfl ?_
    refine r_getR hK d_Gs_deliver_1 f_Gs_29 rfl (in_fix rfl) rfl rfl ?_
    refine r_iload_n hK d_Gs_deliver_4 rfl rfl ?_
    refine r_callVI hK d_Gs_deliver_5 m_Gs_74 rfl (in_fix rfl) (c_Nt_holds_f hg n1 hb) (by decide) rfl rfl rfl ?_
    refine rn_if_ne (tgt := 13) hK d_Gs_deliver_8 (by decide) (by first | omega | (split <;> omega)) (fun hno => absurd hno (by omega)) (fun _ => ?_)
    refine r_iconst (v := -1) hK d_Gs_deliver_11 (by decide) ?_
    exact hR.i d_Gs_deliver_12 rfl (⟨rfl, hC, fun _ _ => rfl⟩)
  · have hres : dlvR s (nI j) = (dlv s j, nI (dlvN s j)) := by unfold dlvR; rw [if_neg (ok_nI hj (by omega)), nI_clamp (by omega)]
    rw [hres]
    obtain ⟨c1, c2, c3, c4⟩ := AI_pk hA hj
    obtain ⟨e1, e2, e3⟩ := lkc_lt c1 c2
    have hcv := n4 j _ (pk_get hj)
    have hmk := (hA.2.2.1 _ e1).2.2.1
    have hN := hA.1.2.2.1
    have hw := hA.1.2.1
    have hCr := CP_rm hC hj
    have hAr := AI_rm hA j
    have hdl : dlv s j = (if s.2.getD j 0 % 2 = 1 then (if s.1 3 (lkc (s.2.getD j 0)) 0 < s.2.getD j 0 / 32 then (ua s.1 3 (lkc (s.2.getD j 0)) 0 (s.2.getD j 0 / 32), s.2.eraseIdx j) else (s.1, s.2.eraseIdx j)) else (arvR (s.1, s.2.eraseIdx j) (lkc (s.2.getD j 0)) (s.2.getD j 0 / 32)).1) := by
      unfold dlv arvR
      rw [e2]
      split
      · rfl
      · split
        · rfl
        · split
          · rfl
          · rfl
    have hdn : nI (dlvN s j) = (if s.2.getD j 0 % 2 = 1 then (if s.1 3 (lkc (s.2.getD j 0)) 0 < s.2.getD j 0 / 32 then nI 4 else nI 5) else (arvR (s.1, s.2.eraseIdx j) (lkc (s.2.getD j 0)) (s.2.getD j 0 / 32)).2) := by
      unfold dlvN arvR
      rw [e2]
      split
      · split
        · rfl
        · rfl
      · split
        · rfl
        · split
          · rfl
          · rfl
    rw [hdl, hdn]
    generalize hcc : s.2.getD j 0 = c at *
    have hlk : 3 * (c / 2 % 4) + c / 8 % 4 < 3 * g.2.1 := e1
    have hc31 : c < 2 ^ 31 := by omega
    have hL := hCr.2.2.1 _ e1
    have l2 := (hA.2.2.1 _ e1).2.1
    have hz8 : rmC σ s.2.length j 11 (lkc c) 8 = nI (s.1 3 (lkc c) 0) := hL.2.2.2.2.1
    by_cases hk : c % 2 = 1
    · rw [if_pos hk, if_pos hk]
      by_cases hcf : s.1 3 (lkc c) 0 < c / 32
      · rw [if_pos hcf, if_pos hcf]
        refine ofK hg w_cd_Gs_deliver (by decide) (by decide) (by first | decide | simp) (by simp [Value.category]) ?_
        intro K hK hR
        have hK : Gd l g "GradientShards" b_Gs_deliver 5 _ K := hK
        refine r_aload_n hK d_Gs_deliver_0 rfl rfl ?_
        refine r_getR hK d_Gs_deliver_1 f_Gs_29 rfl (in_fix rfl) rfl rfl ?_
        refine r_iload_n hK d_Gs_deliver_4 rfl rfl ?_
        refine r_callVI hK d_Gs_deliver_5 m_Gs_74 rfl (in_fix rfl) (c_Nt_holds_t hg n1 hj hlen) (by decide) rfl rfl rfl ?_
        refine rn_if_ne (tgt := 13) hK d_Gs_deliver_8 (by decide) (by first | omega | (split <;> omega)) (fun _ => ?_) (fun hno => absurd hno (by omega))
        refine r_aload_n hK d_Gs_deliver_13 rfl rfl ?_
        refine r_getR hK d_Gs_deliver_14 f_Gs_29 rfl (in_fix rfl) rfl rfl ?_
        refine r_getR hK d_Gs_deliver_17 f_Gs_77 rfl (in_fix rfl) rfl rfl ?_
        refine r_iload_n hK d_Gs_deliver_20 rfl rfl ?_
        refine r_iald hK d_Gs_deliver_21 rfl rfl (in_fix rfl) (ix_nI (j := j) (by omega)) (by show j < 24; omega) hcv ?_
        refine r_istore_n hK d_Gs_deliver_22 rfl rfl rfl ?_
        refine r_aload_n hK d_Gs_deliver_23 rfl rfl ?_
        refine r_getR hK d_Gs_deliver_24 f_Gs_29 rfl (in_fix rfl) rfl rfl ?_
        refine r_iload_n hK d_Gs_deliver_27 rfl rfl ?_
        refine r_callVV hK d_Gs_deliver_28 m_Gs_80 rfl (in_fix rfl) (c_Nt_remove hg n1 hj hlen) (by decide) rfl rfl rfl ?_
        refine r_aload_n hK d_Gs_deliver_31 rfl rfl ?_
        refine r_getR hK d_Gs_deliver_32 f_Gs_19 rfl (in_fix rfl) rfl rfl ?_
        refine r_iload_n hK d_Gs_deliver_35 rfl rfl ?_
        refine r_callSI hK d_Gs_deliver_36 m_Gs_84 (c_Nt_shardOf hg hc31) (by decide) rfl rfl rfl ?_
        refine r_aald hK d_Gs_deliver_39 rfl (Or.inl rfl) (in_fix rfl) (ix_nI (j := c / 8 % 4) (by omega)) c2 rfl ?_
        refine r_astore_n hK d_Gs_deliver_40 rfl rfl rfl ?_
        refine r_aload_n hK d_Gs_deliver_41 rfl rfl ?_
        refine r_getR hK d_Gs_deliver_42 f_Gs_88 rfl (in_sh rfl (by assumption)) rfl rfl ?_
        refine r_iload_n hK d_Gs_deliver_45 rfl rfl ?_
        refine r_callSI hK d_Gs_deliver_46 m_Gs_92 (c_Nt_workerOf hg hc31) (by decide) rfl rfl rfl ?_
        refine r_aald hK d_Gs_deliver_49 rfl (Or.inr rfl) (in_sh rfl (by assumption)) (ix_nI (j := c / 2 % 4) (by omega)) c1 rfl ?_
        refine r_astore hK d_Gs_deliver_50 rfl rfl ?_
        refine r_iload_n hK d_Gs_deliver_52 rfl rfl ?_
        refine r_callSI hK d_Gs_deliver_53 m_Gs_95 (c_Nt_kindOf hg hc31) (by decide) rfl rfl rfl ?_
        refine r_iconst (v := nI 1) hK d_Gs_deliver_56 (by decide) ?_
        refine rn_icmp_ne (tgt := 78) hK d_Gs_deliver_57 (by decide) (by first | omega | (split <;> omega)) (by first | omega | (split <;> omega)) (fun hno => absurd hno (by omega)) (fun _ => ?_)
        refine r_aload hK d_Gs_deliver_60 rfl ?_
        refine r_iload_n hK d_Gs_deliver_62 rfl rfl ?_
        refine r_callSI hK d_Gs_deliver_63 m_Gs_98 (c_Nt_numberOf hg hc31) (by decide) rfl rfl rfl ?_
        refine r_callVI hK d_Gs_deliver_66 m_Gs_101 rfl (in_lk rfl (by assumption)) (c_Lk_confirm_t hg hlk hz8 hcf (by omega)) (by decide) rfl rfl rfl ?_
        refine rn_if_eq (tgt := 76) hK d_Gs_deliver_69 (by decide) (by first | omega | (split <;> omega)) (fun hno => absurd hno (by omega)) (fun _ => ?_)
        refine r_iconst (v := nI 4) hK d_Gs_deliver_72 (by decide) ?_
        refine r_goto (tgt := 77) hK d_Gs_deliver_73 (by decide) ?_
        exact hR.i d_Gs_deliver_77 rfl (⟨rfl, CP_conf hCr, fun k hk => by rw [up_k (by omega), rmC_k (by omega) (by omega)]⟩)
      · rw [if_neg hcf, if_neg hcf]
        refine ofK hg w_cd_Gs_deliver (by decide) (by decide) (by first | decide | simp) (by simp [Value.category]) ?_
        intro K hK hR
        have hK : Gd l g "GradientShards" b_Gs_deliver 5 _ K := hK
        refine r_aload_n hK d_Gs_deliver_0 rfl rfl ?_
        refine r_getR hK d_Gs_deliver_1 f_Gs_29 rfl (in_fix rfl) rfl rfl ?_
        refine r_iload_n hK d_Gs_deliver_4 rfl rfl ?_
        refine r_callVI hK d_Gs_deliver_5 m_Gs_74 rfl (in_fix rfl) (c_Nt_holds_t hg n1 hj hlen) (by decide) rfl rfl rfl ?_
        refine rn_if_ne (tgt := 13) hK d_Gs_deliver_8 (by decide) (by first | omega | (split <;> omega)) (fun _ => ?_) (fun hno => absurd hno (by omega))
        refine r_aload_n hK d_Gs_deliver_13 rfl rfl ?_
        refine r_getR hK d_Gs_deliver_14 f_Gs_29 rfl (in_fix rfl) rfl rfl ?_
        refine r_getR hK d_Gs_deliver_17 f_Gs_77 rfl (in_fix rfl) rfl rfl ?_
        refine r_iload_n hK d_Gs_deliver_20 rfl rfl ?_
        refine r_iald hK d_Gs_deliver_21 rfl rfl (in_fix rfl) (ix_nI (j := j) (by omega)) (by show j < 24; omega) hcv ?_
        refine r_istore_n hK d_Gs_deliver_22 rfl rfl rfl ?_
        refine r_aload_n hK d_Gs_deliver_23 rfl rfl ?_
        refine r_getR hK d_Gs_deliver_24 f_Gs_29 rfl (in_fix rfl) rfl rfl ?_
        refine r_iload_n hK d_Gs_deliver_27 rfl rfl ?_
        refine r_callVV hK d_Gs_deliver_28 m_Gs_80 rfl (in_fix rfl) (c_Nt_remove hg n1 hj hlen) (by decide) rfl rfl rfl ?_
        refine r_aload_n hK d_Gs_deliver_31 rfl rfl ?_
        refine r_getR hK d_Gs_deliver_32 f_Gs_19 rfl (in_fix rfl) rfl rfl ?_
        refine r_iload_n hK d_Gs_deliver_35 rfl rfl ?_
        refine r_callSI hK d_Gs_deliver_36 m_Gs_84 (c_Nt_shardOf hg hc31) (by decide) rfl rfl rfl ?_
        refine r_aald hK d_Gs_deliver_39 rfl (Or.inl rfl) (in_fix rfl) (ix_nI (j := c / 8 % 4) (by omega)) c2 rfl ?_
        refine r_astore_n hK d_Gs_deliver_40 rfl rfl rfl ?_
        refine r_aload_n hK d_Gs_deliver_41 rfl rfl ?_
        refine r_getR hK d_Gs_deliver_42 f_Gs_88 rfl (in_sh rfl (by assumption)) rfl rfl ?_
        refine r_iload_n hK d_Gs_deliver_45 rfl rfl ?_
        refine r_callSI hK d_Gs_deliver_46 m_Gs_92 (c_Nt_workerOf hg hc31) (by decide) rfl rfl rfl ?_
        refine r_aald hK d_Gs_deliver_49 rfl (Or.inr rfl) (in_sh rfl (by assumption)) (ix_nI (j := c / 2 % 4) (by omega)) c1 rfl ?_
        refine r_astore hK d_Gs_deliver_50 rfl rfl ?_
        refine r_iload_n hK d_Gs_deliver_52 rfl rfl ?_
        refine r_callSI hK d_Gs_deliver_53 m_Gs_95 (c_Nt_kindOf hg hc31) (by decide) rfl rfl rfl ?_
        refine r_iconst (v := nI 1) hK d_Gs_deliver_56 (by decide) ?_
        refine rn_icmp_ne (tgt := 78) hK d_Gs_deliver_57 (by decide) (by first | omega | (split <;> omega)) (by first | omega | (split <;> omega)) (fun hno => absurd hno (by omega)) (fun _ => ?_)
        refine r_aload hK d_Gs_deliver_60 rfl ?_
        refine r_iload_n hK d_Gs_deliver_62 rfl rfl ?_
        refine r_callSI hK d_Gs_deliver_63 m_Gs_98 (c_Nt_numberOf hg hc31) (by decide) rfl rfl rfl ?_
        refine r_callVI hK d_Gs_deliver_66 m_Gs_101 rfl (in_lk rfl (by assumption)) (c_Lk_confirm_f hg hlk hz8 (by omega) (by omega)) (by decide) rfl rfl rfl ?_
        refine rn_if_eq (tgt := 76) hK d_Gs_deliver_69 (by decide) (by first | omega | (split <;> omega)) (fun _ => ?_) (fun hno => absurd hno (by omega))
        refine r_iconst (v := nI 5) hK d_Gs_deliver_76 (by decide) ?_
        exact hR.i d_Gs_deliver_77 rfl (⟨rfl, hCr, fun k hk => rmC_k (by omega) (by omega)⟩)
    · rw [if_neg hk, if_neg hk]
      have har := c_Gs_arrive (l := l) hg hCr hAr hru (v0 := c / 2 % 4) (h := c / 8 % 4) (n := c / 32) c1 c2 (c4 (by omega))
      refine ofK hg w_cd_Gs_deliver (by decide) (by decide) (by first | decide | simp) (by simp [Value.category]) ?_
      intro K hK hR
      have hK : Gd l g "GradientShards" b_Gs_deliver 5 _ K := hK
      refine r_aload_n hK d_Gs_deliver_0 rfl rfl ?_
      refine r_getR hK d_Gs_deliver_1 f_Gs_29 rfl (in_fix rfl) rfl rfl ?_
      refine r_iload_n hK d_Gs_deliver_4 rfl rfl ?_
      refine r_callVI hK d_Gs_deliver_5 m_Gs_74 rfl (in_fix rfl) (c_Nt_holds_t hg n1 hj hlen) (by decide) rfl rfl rfl ?_
      refine rn_if_ne (tgt := 13) hK d_Gs_deliver_8 (by decide) (by first | omega | (split <;> omega)) (fun _ => ?_) (fun hno => absurd hno (by omega))
      refine r_aload_n hK d_Gs_deliver_13 rfl rfl ?_
      refine r_getR hK d_Gs_deliver_14 f_Gs_29 rfl (in_fix rfl) rfl rfl ?_
      refine r_getR hK d_Gs_deliver_17 f_Gs_77 rfl (in_fix rfl) rfl rfl ?_
      refine r_iload_n hK d_Gs_deliver_20 rfl rfl ?_
      refine r_iald hK d_Gs_deliver_21 rfl rfl (in_fix rfl) (ix_nI (j := j) (by omega)) (by show j < 24; omega) hcv ?_
      refine r_istore_n hK d_Gs_deliver_22 rfl rfl rfl ?_
      refine r_aload_n hK d_Gs_deliver_23 rfl rfl ?_
      refine r_getR hK d_Gs_deliver_24 f_Gs_29 rfl (in_fix rfl) rfl rfl ?_
      refine r_iload_n hK d_Gs_deliver_27 rfl rfl ?_
      refine r_callVV hK d_Gs_deliver_28 m_Gs_80 rfl (in_fix rfl) (c_Nt_remove hg n1 hj hlen) (by decide) rfl rfl rfl ?_
      refine r_aload_n hK d_Gs_deliver_31 rfl rfl ?_
      refine r_getR hK d_Gs_deliver_32 f_Gs_19 rfl (in_fix rfl) rfl rfl ?_
      refine r_iload_n hK d_Gs_deliver_35 rfl rfl ?_
      refine r_callSI hK d_Gs_deliver_36 m_Gs_84 (c_Nt_shardOf hg hc31) (by decide) rfl rfl rfl ?_
      refine r_aald hK d_Gs_deliver_39 rfl (Or.inl rfl) (in_fix rfl) (ix_nI (j := c / 8 % 4) (by omega)) c2 rfl ?_
      refine r_astore_n hK d_Gs_deliver_40 rfl rfl rfl ?_
      refine r_aload_n hK d_Gs_deliver_41 rfl rfl ?_
      refine r_getR hK d_Gs_deliver_42 f_Gs_88 rfl (in_sh rfl (by assumption)) rfl rfl ?_
      refine r_iload_n hK d_Gs_deliver_45 rfl rfl ?_
      refine r_callSI hK d_Gs_deliver_46 m_Gs_92 (c_Nt_workerOf hg hc31) (by decide) rfl rfl rfl ?_
      refine r_aald hK d_Gs_deliver_49 rfl (Or.inr rfl) (in_sh rfl (by assumption)) (ix_nI (j := c / 2 % 4) (by omega)) c1 rfl ?_
      refine r_astore hK d_Gs_deliver_50 rfl rfl ?_
      refine r_iload_n hK d_Gs_deliver_52 rfl rfl ?_
      refine r_callSI hK d_Gs_deliver_53 m_Gs_95 (c_Nt_kindOf hg hc31) (by decide) rfl rfl rfl ?_
      refine r_iconst (v := nI 1) hK d_Gs_deliver_56 (by decide) ?_
      refine rn_icmp_ne (tgt := 78) hK d_Gs_deliver_57 (by decide) (by first | omega | (split <;> omega)) (by first | omega | (split <;> omega)) (fun _ => ?_) (fun hno => absurd hno (by omega))
      refine r_aload_n hK d_Gs_deliver_78 rfl rfl ?_
      refine r_aload_n hK d_Gs_deliver_79 rfl rfl ?_
      refine r_aload hK d_Gs_deliver_80 rfl ?_
      refine r_iload_n hK d_Gs_deliver_82 rfl rfl ?_
      refine r_callSI hK d_Gs_deliver_83 m_Gs_98 (c_Nt_numberOf hg hc31) (by decide) rfl rfl rfl ?_
      refine r_callVP hK d_Gs_deliver_86 m_Gs_104 rfl (in_fix rfl) (har) (by decide) rfl rfl rfl (fun r9 τ9 hP9 => ?_)
      obtain ⟨rfl, q2, q3⟩ := hP9
      exact hR.i d_Gs_deliver_89 rfl (⟨rfl, q2, fun k hk => by rw [q3 k hk, rmC_k (by omega) (by omega)]⟩)
theorem c_Gs_drop (hg : Gok g) (hC : CP g.2.1 sl ru s σ) (hA : AI g.2.1 N s) (i : Int32) : Ct l g y_Gs_drop 2 [.ref (g.1 0 0), .int i] σ (PC g.2.1 sl ru (drpR s i) σ) := by
  obtain ⟨n1, n2, n3, n4⟩ := hC.2.1
  have hlen := hA.1.2.2.2.1
  rcases bad_or s.2.length (by omega) i with hb | ⟨j, hj, rfl⟩
  · have hres : drpR s i = (s, nI 0) := if_pos hb
    rw [hres]
    refine ofK hg w_cd_Gs_drop (by decide) (by decide) (by first | decide | simp) (by simp [Value.category]) ?_
    intro K hK hR
    have hK : Gd l g "GradientShards" b_Gs_drop 2 _ K := hK
    refine r_aload_n hK d_Gs_drop_0 rfl rfl ?_
    refine r_getR hK d_Gs_drop_1 f_Gs_29 rfl (in_fix rfl) rfl rfl ?_
    refine r_iload_n hK d_Gs_drop_4 rfl rfl ?_
    refine r_callVI hK d_Gs_drop_5 m_Gs_74 rfl (in_fix rfl) (c_Nt_holds_f hg n1 hb) (by decide) rfl rfl rfl ?_
    refine rn_if_ne (tgt := 13) hK d_Gs_drop_8 (by decide) (by first | omega | (split <;> omega)) (fun hno => absurd hno (by omega)) (fun _ => ?_)
    refine r_iconst (v := nI 0) hK d_Gs_drop_11 (by decide) ?_
    exact hR.i d_Gs_drop_12 rfl (⟨rfl, hC, fun _ _ => rfl⟩)
  · have hres : drpR s (nI j) = ((s.1, s.2.eraseIdx j), nI 1) := by unfold drpR; rw [if_neg (ok_nI hj (by omega)), nI_clamp (by omega)]
    rw [hres]
    refine ofK hg w_cd_Gs_drop (by decide) (by decide) (by first | decide | simp) (by simp [Value.category]) ?_
    intro K hK hR
    have hK : Gd l g "GradientShards" b_Gs_drop 2 _ K := hK
    refine r_aload_n hK d_Gs_drop_0 rfl rfl ?_
    refine r_getR hK d_Gs_drop_1 f_Gs_29 rfl (in_fix rfl) rfl rfl ?_
    refine r_iload_n hK d_Gs_drop_4 rfl rfl ?_
    refine r_callVI hK d_Gs_drop_5 m_Gs_74 rfl (in_fix rfl) (c_Nt_holds_t hg n1 hj hlen) (by decide) rfl rfl rfl ?_
    refine rn_if_ne (tgt := 13) hK d_Gs_drop_8 (by decide) (by first | omega | (split <;> omega)) (fun _ => ?_) (fun hno => absurd hno (by omega))
    refine r_aload_n hK d_Gs_drop_13 rfl rfl ?_
    refine r_getR hK d_Gs_drop_14 f_Gs_29 rfl (in_fix rfl) rfl rfl ?_
    refine r_iload_n hK d_Gs_drop_17 rfl rfl ?_
    refine r_callVV hK d_Gs_drop_18 m_Gs_80 rfl (in_fix rfl) (c_Nt_remove hg n1 hj hlen) (by decide) rfl rfl rfl ?_
    refine r_iconst (v := nI 1) hK d_Gs_drop_21 (by decide) ?_
    exact hR.i d_Gs_drop_22 rfl (⟨rfl, CP_rm hC hj, fun k hk => rmC_k (by omega) (by omega)⟩)
theorem c_Gs_copy (hg : Gok g) (hC : CP g.2.1 sl ru s σ) (hA : AI g.2.1 N s) (i : Int32) : Ct l g y_Gs_copy 2 [.ref (g.1 0 0), .int i] σ (PC g.2.1 sl ru (cpyR s i) σ) := by
  obtain ⟨n1, n2, n3, n4⟩ := hC.2.1
  have hlen := hA.1.2.2.2.1
  have hfull := c_Nt_isFull (l := l) hg n1 hlen
  rcases bad_or s.2.length (by omega) i with hb | ⟨j, hj, rfl⟩
  · have hres : cpyR s i = (s, nI 0) := if_pos (Or.inl hb)
    rw [hres]
    refine ofK hg w_cd_Gs_copy (by decide) (by decide) (by first | decide | simp) (by simp [Value.category]) ?_
    intro K hK hR
    have hK : Gd l g "GradientShards" b_Gs_copy 2 _ K := hK
    refine r_aload_n hK d_Gs_copy_0 rfl rfl ?_
    refine r_getR hK d_Gs_copy_1 f_Gs_29 rfl (in_fix rfl) rfl rfl ?_
    refine r_iload_n hK d_Gs_copy_4 rfl rfl ?_
    refine r_callVI hK d_Gs_copy_5 m_Gs_74 rfl (in_fix rfl) (c_Nt_holds_f hg n1 hb) (by decide) rfl rfl rfl ?_
    refine rn_if_eq (tgt := 21) hK d_Gs_copy_8 (by decide) (by first | omega | (split <;> omega)) (fun _ => ?_) (fun hno => absurd hno (by omega))
    refine r_iconst (v := nI 0) hK d_Gs_copy_21 (by decide) ?_
    exact hR.i d_Gs_copy_22 rfl (⟨rfl, hC, fun _ _ => rfl⟩)
  · by_cases h24 : s.2.length < 24
    · have hres : cpyR s (nI j) = (snd s (s.2.getD j 0), nI 1) := by unfold cpyR; rw [if_neg (fun q => q.elim (ok_nI hj (by omega)) (by omega)), nI_clamp (by omega)]
      rw [hres]
      rw [if_pos h24] at hfull
      refine ofK hg w_cd_Gs_copy (by decide) (by decide) (by first | decide | simp) (by simp [Value.category]) ?_
      intro K hK hR
      have hK : Gd l g "GradientShards" b_Gs_copy 2 _ K := hK
      refine r_aload_n hK d_Gs_copy_0 rfl rfl ?_
      refine r_getR hK d_Gs_copy_1 f_Gs_29 rfl (in_fix rfl) rfl rfl ?_
      refine r_iload_n hK d_Gs_copy_4 rfl rfl ?_
      refine r_callVI hK d_Gs_copy_5 m_Gs_74 rfl (in_fix rfl) (c_Nt_holds_t hg n1 hj hlen) (by decide) rfl rfl rfl ?_
      refine rn_if_eq (tgt := 21) hK d_Gs_copy_8 (by decide) (by first | omega | (split <;> omega)) (fun hno => absurd hno (by omega)) (fun _ => ?_)
      refine r_aload_n hK d_Gs_copy_11 rfl rfl ?_
      refine r_getR hK d_Gs_copy_12 f_Gs_29 rfl (in_fix rfl) rfl rfl ?_
      refine r_callVI hK d_Gs_copy_15 m_Gs_108 rfl (in_fix rfl) (hfull) (by decide) rfl rfl rfl ?_
      refine rn_if_eq (tgt := 23) hK d_Gs_copy_18 (by decide) (by first | omega | (split <;> omega)) (fun _ => ?_) (fun hno => absurd hno (by omega))
      refine r_aload_n hK d_Gs_copy_23 rfl rfl ?_
      refine r_getR hK d_Gs_copy_24 f_Gs_29 rfl (in_fix rfl) rfl rfl ?_
      refine r_aload_n hK d_Gs_copy_27 rfl rfl ?_
      refine r_getR hK d_Gs_copy_28 f_Gs_29 rfl (in_fix rfl) rfl rfl ?_
      refine r_getR hK d_Gs_copy_31 f_Gs_77 rfl (in_fix rfl) rfl rfl ?_
      refine r_iload_n hK d_Gs_copy_34 rfl rfl ?_
      refine r_iald hK d_Gs_copy_35 rfl rfl (in_fix rfl) (ix_nI (j := j) (by omega)) (by show j < 24; omega) (n4 j _ (pk_get hj)) ?_
      refine r_callVV hK d_Gs_copy_36 m_Gs_112 rfl (in_fix rfl) (c_Nt_send hg n1 hlen) (by decide) rfl rfl rfl ?_
      refine r_iconst (v := nI 1) hK d_Gs_copy_39 (by decide) ?_
      exact hR.i d_Gs_copy_40 rfl (⟨rfl, CP_snd hC, fun k hk => sdC_k (by omega) (by omega)⟩)
    · have hres : cpyR s (nI j) = (s, nI 0) := if_pos (Or.inr (by omega))
      rw [hres]
      rw [if_neg h24] at hfull
      refine ofK hg w_cd_Gs_copy (by decide) (by decide) (by first | decide | simp) (by simp [Value.category]) ?_
      intro K hK hR
      have hK : Gd l g "GradientShards" b_Gs_copy 2 _ K := hK
      refine r_aload_n hK d_Gs_copy_0 rfl rfl ?_
      refine r_getR hK d_Gs_copy_1 f_Gs_29 rfl (in_fix rfl) rfl rfl ?_
      refine r_iload_n hK d_Gs_copy_4 rfl rfl ?_
      refine r_callVI hK d_Gs_copy_5 m_Gs_74 rfl (in_fix rfl) (c_Nt_holds_t hg n1 hj hlen) (by decide) rfl rfl rfl ?_
      refine rn_if_eq (tgt := 21) hK d_Gs_copy_8 (by decide) (by first | omega | (split <;> omega)) (fun hno => absurd hno (by omega)) (fun _ => ?_)
      refine r_aload_n hK d_Gs_copy_11 rfl rfl ?_
      refine r_getR hK d_Gs_copy_12 f_Gs_29 rfl (in_fix rfl) rfl rfl ?_
      refine r_callVI hK d_Gs_copy_15 m_Gs_108 rfl (in_fix rfl) (hfull) (by decide) rfl rfl rfl ?_
      refine rn_if_eq (tgt := 23) hK d_Gs_copy_18 (by decide) (by first | omega | (split <;> omega)) (fun hno => absurd hno (by omega)) (fun _ => ?_)
      refine r_iconst (v := nI 0) hK d_Gs_copy_21 (by decide) ?_
      exact hR.i d_Gs_copy_22 rfl (⟨rfl, hC, fun _ _ => rfl⟩)
theorem c_Gs_tick (hg : Gok g) (hC : CP g.2.1 sl ru s σ) (hA : AI g.2.1 N s) (hT : s.1 12 0 0 + 1 ≤ 20 * N) : Ct l g y_Gs_tick 3 [.ref (g.1 0 0)] σ (PC g.2.1 sl ru (tckR g.2.1 s) σ) := by
  have hw := hA.1.2.1
  have hN := hA.1.2.2.1
  have ea : al g.2.1 1 = g.2.1 := rfl
  generalize hs0 : ((ua s.1 12 0 0 (s.1 12 0 0 + 1), s.2) : Sp) = s0
  have hC0 : CP g.2.1 sl ru s0 (up σ 0 0 4 (nI (s.1 12 0 0 + 1))) := by rw [← hs0]; exact CP_time hC
  have hA0 : AI g.2.1 N s0 := by rw [← hs0]; exact AI_tm hA hT
  have hfin : tckR g.2.1 s = ((ua (tkl s0 (3 * g.2.1)).1.1 9 2 0 ((tkl s0 (3 * g.2.1)).1.1 9 2 0 + (tkl s0 (3 * g.2.1)).2), (tkl s0 (3 * g.2.1)).1.2), nI (tkl s0 (3 * g.2.1)).2) := by rw [← hs0]; rfl
  rw [hfin]
  refine ofK hg w_cd_Gs_tick (by decide) (by decide) (by first | decide | simp) (by simp [Value.category]) ?_
  intro K hK hR
  have hK : Gd l g "GradientShards" b_Gs_tick 5 _ K := hK
  have hinner : ∀ v, v < g.2.1 → (∀ τ, CP g.2.1 sl ru (tkl s0 (3 * (v + 1))).1 τ → (∀ k, 16 ≤ k → τ k = σ k) → K 14 [.ref (g.1 0 0), .int (nI (tkl s0 (3 * (v + 1))).2), .int (nI (v + 1))] [] τ) → ∀ d h τ, h + d = 3 → CP g.2.1 sl ru (tkl s0 (3 * v + h)).1 τ → (∀ k, 16 ≤ k → τ k = σ k) → K 25 [.ref (g.1 0 0), .int (nI (tkl s0 (3 * v + h)).2), .int (nI v), .int (nI h)] [] τ := by
    intro v hv hout d
    induction d with
    | zero =>
      intro h τ hd hCt hF
      obtain rfl : h = 3 := by omega
      refine r_iload_n hK d_Gs_tick_25 rfl rfl ?_
      refine r_iconst (v := nI 3) hK d_Gs_tick_26 (by decide) ?_
      refine rn_icmp_ge (tgt := 70) hK d_Gs_tick_27 (by decide) (by first | omega | (split <;> omega)) (by first | omega | (split <;> omega)) (fun _ => ?_) (fun hno => absurd hno (by omega))
      refine r_iinc hK d_Gs_tick_70 rfl (nI_1 _) rfl ?_
      refine r_goto (tgt := 14) hK d_Gs_tick_73 (by decide) ?_
      exact r_drop 3 hK (hout τ hCt hF)
    | succ d ih =>
      intro h τ hd hCt hF
      have hh : h < 3 := by omega
      have hlk : 3 * v + h < 3 * g.2.1 := by omega
      obtain ⟨hAt, ht12⟩ := AI_tkl hA0 (3 * v + h) (by omega)
      obtain ⟨p0, p1, p6, p7, p8, p14, -⟩ := hCt.2.2.1 (3 * v + h) hlk
      obtain ⟨l1, l2, l3, l4, l5, -⟩ := hAt.2.2.1 (3 * v + h) hlk
      have htm := hCt.1.2.1
      have ht20 := hAt.1.2.2.2.2
      have hlen := hAt.1.2.2.2.1
      have e1 : (3 * v + h) / 3 = v := by omega
      have hstep : tkl s0 (3 * v + h + 1) = if due (tkl s0 (3 * v + h)).1.1 (3 * v + h) then (rsd (tkl s0 (3 * v + h)).1 (3 * v + h), (tkl s0 (3 * v + h)).2 + 1) else tkl s0 (3 * v + h) := rfl
      have hdue := c_Lk_isDueAgain (l := l) hg hlk p6 p8 (p14 _ (Nat.mod_lt _ (by decide))) (l5 _ (Nat.mod_lt _ (by decide))) (by omega) (by omega) (by omega)
      by_cases hd2 : due (tkl s0 (3 * v + h)).1.1 (3 * v + h)
      · rw [if_pos hd2] at hstep hdue
        have hih := fun τ => ih (h + 1) τ (by omega)
        rw [show 3 * v + (h + 1) = 3 * v + h + 1 by omega, hstep] at hih
        refine r_iload_n hK d_Gs_tick_25 rfl rfl ?_
        refine r_iconst (v := nI 3) hK d_Gs_tick_26 (by decide) ?_
        refine rn_icmp_ge (tgt := 70) hK d_Gs_tick_27 (by decide) (by first | omega | (split <;> omega)) (by first | omega | (split <;> omega)) (fun hno => absurd hno (by omega)) (fun _ => ?_)
        refine r_aload_n hK d_Gs_tick_30 rfl rfl ?_
        refine r_iload_n hK d_Gs_tick_31 rfl rfl ?_
        refine r_iload_n hK d_Gs_tick_32 rfl rfl ?_
        refine r_callVR hK d_Gs_tick_33 m_Gs_43 rfl (in_fix rfl) (c_Gs_linkOf hg hh hv hw) (by decide) rfl rfl rfl ?_
        refine r_astore hK d_Gs_tick_36 rfl rfl ?_
        refine r_aload hK d_Gs_tick_38 rfl ?_
        refine r_aload_n hK d_Gs_tick_40 rfl rfl ?_
        refine r_getI hK d_Gs_tick_41 f_Gs_115 rfl (in_fix rfl) rfl rfl htm ?_
        refine r_callVI hK d_Gs_tick_44 m_Gs_118 rfl (in_lk rfl (by assumption)) (hdue) (by decide) rfl rfl rfl ?_
        refine rn_if_eq (tgt := 64) hK d_Gs_tick_47 (by decide) (by first | omega | (split <;> omega)) (fun hno => absurd hno (by omega)) (fun _ => ?_)
        refine r_aload_n hK d_Gs_tick_50 rfl rfl ?_
        refine r_aload hK d_Gs_tick_51 rfl ?_
        refine r_aload hK d_Gs_tick_53 rfl ?_
        refine r_getI hK d_Gs_tick_55 f_Gs_121 rfl (in_lk rfl (by assumption)) rfl rfl p8 ?_
        refine r_callVV hK d_Gs_tick_58 m_Gs_124 rfl (in_fix rfl) (c_Gs_sendMessage hg hlk p0 p1 htm hCt.2.1.1 hlen (by omega)) (by decide) rfl rfl rfl ?_
        refine r_iinc hK d_Gs_tick_61 rfl (nI_1 _) rfl ?_
        refine r_iinc hK d_Gs_tick_64 rfl (nI_1 _) rfl ?_
        refine r_goto (tgt := 25) hK d_Gs_tick_67 (by decide) ?_
        exact r_drop 4 hK (hih _ (CP_snd (CP_sent hCt)) (fun k hk => by rw [sdC_k (by omega) (by omega), up_k (by omega)]; exact hF k hk))
      · rw [if_neg hd2] at hstep hdue
        have hih := fun τ => ih (h + 1) τ (by omega)
        rw [show 3 * v + (h + 1) = 3 * v + h + 1 by omega, hstep] at hih
        refine r_iload_n hK d_Gs_tick_25 rfl rfl ?_
        refine r_iconst (v := nI 3) hK d_Gs_tick_26 (by decide) ?_
        refine rn_icmp_ge (tgt := 70) hK d_Gs_tick_27 (by decide) (by first | omega | (split <;> omega)) (by first | omega | (split <;> omega)) (fun hno => absurd hno (by omega)) (fun _ => ?_)
        refine r_aload_n hK d_Gs_tick_30 rfl rfl ?_
        refine r_iload_n hK d_Gs_tick_31 rfl rfl ?_
        refine r_iload_n hK d_Gs_tick_32 rfl rfl ?_
        refine r_callVR hK d_Gs_tick_33 m_Gs_43 rfl (in_fix rfl) (c_Gs_linkOf hg hh hv hw) (by decide) rfl rfl rfl ?_
        refine r_astore hK d_Gs_tick_36 rfl rfl ?_
        refine r_aload hK d_Gs_tick_38 rfl ?_
        refine r_aload_n hK d_Gs_tick_40 rfl rfl ?_
        refine r_getI hK d_Gs_tick_41 f_Gs_115 rfl (in_fix rfl) rfl rfl htm ?_
        refine r_callVI hK d_Gs_tick_44 m_Gs_118 rfl (in_lk rfl (by assumption)) (hdue) (by decide) rfl rfl rfl ?_
        refine rn_if_eq (tgt := 64) hK d_Gs_tick_47 (by decide) (by first | omega | (split <;> omega)) (fun _ => ?_) (fun hno => absurd hno (by omega))
        refine r_iinc hK d_Gs_tick_64 rfl (nI_1 _) rfl ?_
        refine r_goto (tgt := 25) hK d_Gs_tick_67 (by decide) ?_
        exact r_drop 4 hK (hih _ hCt hF)
  have houter : ∀ d v τ, v + d = g.2.1 → CP g.2.1 sl ru (tkl s0 (3 * v)).1 τ → (∀ k, 16 ≤ k → τ k = σ k) → K 14 [.ref (g.1 0 0), .int (nI (tkl s0 (3 * v)).2), .int (nI v)] [] τ := by
    intro d
    induction d with
    | zero =>
      intro v τ hv hCt hF
      obtain rfl : v = g.2.1 := by omega
      have h5 := hCt.1.2.2.1
      refine r_iload_n hK d_Gs_tick_14 rfl rfl ?_
      refine r_aload_n hK d_Gs_tick_15 rfl rfl ?_
      refine r_getR hK d_Gs_tick_16 f_Gs_13 rfl (in_fix rfl) rfl rfl ?_
      refine r_alen hK d_Gs_tick_19 rfl rfl (in_fix rfl) ?_
      refine rn_icmp_ge (tgt := 76) hK d_Gs_tick_20 (by decide) (by first | omega | (split <;> omega)) (by first | omega | (split <;> omega)) (fun _ => ?_) (fun hno => absurd hno (by omega))
      refine r_aload_n hK d_Gs_tick_76 rfl rfl ?_
      refine r_dup hK d_Gs_tick_77 rfl ?_
      refine r_getI hK d_Gs_tick_78 f_Gs_128 rfl (in_fix rfl) rfl rfl h5 ?_
      refine r_iload_n hK d_Gs_tick_81 rfl rfl ?_
      refine r_iadd hK d_Gs_tick_82 (nI_add _ _) ?_
      refine r_putI hK d_Gs_tick_83 f_Gs_128 rfl (in_fix rfl) rfl rfl rfl rfl ?_
      refine r_iload_n hK d_Gs_tick_86 rfl rfl ?_
      exact hR.i d_Gs_tick_87 rfl (⟨rfl, CP_cnt (i := 2) hCt (by omega), fun k hk => by rw [up_k (by omega)]; exact hF k hk⟩)
    | succ d ih =>
      intro v τ hv hCt hF
      refine r_iload_n hK d_Gs_tick_14 rfl rfl ?_
      refine r_aload_n hK d_Gs_tick_15 rfl rfl ?_
      refine r_getR hK d_Gs_tick_16 f_Gs_13 rfl (in_fix rfl) rfl rfl ?_
      refine r_alen hK d_Gs_tick_19 rfl rfl (in_fix rfl) ?_
      refine rn_icmp_ge (tgt := 76) hK d_Gs_tick_20 (by decide) (by first | omega | (split <;> omega)) (by first | omega | (split <;> omega)) (fun hno => absurd hno (by omega)) (fun _ => ?_)
      refine r_iconst (v := nI 0) hK d_Gs_tick_23 (by decide) ?_
      refine r_istore_n hK d_Gs_tick_24 rfl rfl rfl ?_
      exact hinner v (by omega) (fun τ h1 h2 => ih (v + 1) τ (by omega) h1 h2) 3 0 τ (by omega) hCt hF
  have h4 := hC.1.2.1
  refine r_aload_n hK d_Gs_tick_0 rfl rfl ?_
  refine r_dup hK d_Gs_tick_1 rfl ?_
  refine r_getI hK d_Gs_tick_2 f_Gs_115 rfl (in_fix rfl) rfl rfl h4 ?_
  refine r_iconst (v := nI 1) hK d_Gs_tick_5 (by decide) ?_
  refine r_iadd hK d_Gs_tick_6 (nI_add _ _) ?_
  refine r_putI hK d_Gs_tick_7 f_Gs_115 rfl (in_fix rfl) rfl rfl rfl rfl ?_
  refine r_iconst (v := nI 0) hK d_Gs_tick_10 (by decide) ?_
  refine r_istore_n hK d_Gs_tick_11 rfl rfl rfl ?_
  refine r_iconst (v := nI 0) hK d_Gs_tick_12 (by decide) ?_
  refine r_istore_n hK d_Gs_tick_13 rfl rfl rfl ?_
  exact houter g.2.1 0 _ (by omega) hC0 (fun k hk => up_k (by omega))
theorem c_Gs_run (hg : Gok g) (hC : CP g.2.1 sl ru s σ) (hA : AI g.2.1 N s) (hru : ru ≤ 2) (hT : s.1 12 0 0 + 20 ≤ 20 * N) (n : Int32) : Ct l g y_Gs_run 6 [.ref (g.1 0 0), .int n] σ (PC g.2.1 sl ru (runR g.2.1 s n) σ) := by
  have hw := hA.1.2.1
  by_cases hb1 : n < nI 1
  · have hres : runR g.2.1 s n = (s, -1) := if_pos (Or.inl hb1)
    rw [hres]
    refine ofK hg w_cd_Gs_run (by decide) (by decide) (by first | decide | simp) (by simp [Value.category]) ?_
    intro K hK hR
    have hK : Gd l g "GradientShards" b_Gs_run 4 _ K := hK
    refine r_iload_n hK d_Gs_run_0 rfl rfl ?_
    refine r_iconst (v := nI 1) hK d_Gs_run_1 (by decide) ?_
    refine r_icmp_lt (tgt := 11) hK d_Gs_run_2 (by decide) (fun _ => ?_) (fun hno => absurd (hb1) hno)
    refine r_iconst (v := -1) hK d_Gs_run_11 (by decide) ?_
    exact hR.i d_Gs_run_12 rfl (⟨rfl, hC, fun _ _ => rfl⟩)
  · by_cases hb2 : nI 20 < n
    · have hres : runR g.2.1 s n = (s, -1) := if_pos (Or.inr hb2)
      rw [hres]
      refine ofK hg w_cd_Gs_run (by decide) (by decide) (by first | decide | simp) (by simp [Value.category]) ?_
      intro K hK hR
      have hK : Gd l g "GradientShards" b_Gs_run 4 _ K := hK
      refine r_iload_n hK d_Gs_run_0 rfl rfl ?_
      refine r_iconst (v := nI 1) hK d_Gs_run_1 (by decide) ?_
      refine r_icmp_lt (tgt := 11) hK d_Gs_run_2 (by decide) (fun hno => absurd hno (hb1)) (fun _ => ?_)
      refine r_iload_n hK d_Gs_run_5 rfl rfl ?_
      refine r_bipush (v := nI 20) hK d_Gs_run_6 (by decide) ?_
      refine r_icmp_le (tgt := 13) hK d_Gs_run_8 (by decide) (fun hno => absurd hno (Int32.not_le.mpr hb2)) (fun _ => ?_)
      refine r_iconst (v := -1) hK d_Gs_run_11 (by decide) ?_
      exact hR.i d_Gs_run_12 rfl (⟨rfl, hC, fun _ _ => rfl⟩)
    · have hn0 : ¬ n < 0 := fun q => hb1 (Int32.lt_trans q (by decide))
      obtain ⟨m, hm, rfl⟩ : ∃ m, m ≤ 20 ∧ n = nI m := nI_of2 (M := nI 20) (n := 20) (by decide) hn0 (Int32.not_lt.mp hb2)
      have hres : runR g.2.1 s (nI m) = ((rnn g.2.1 s m).1, nI (rnn g.2.1 s m).2) := by unfold runR; rw [if_neg (fun q => q.elim hb1 hb2), nI_clamp (by omega)]
      rw [hres]
      refine ofK hg w_cd_Gs_run (by decide) (by decide) (by first | decide | simp) (by simp [Value.category]) ?_
      intro K hK hR
      have hK : Gd l g "GradientShards" b_Gs_run 4 _ K := hK
      have hloop : ∀ d i τ, i + d = m → CP g.2.1 sl ru (rnn g.2.1 s i).1 τ → (∀ k, 16 ≤ k → τ k = σ k) → K 17 [.ref (g.1 0 0), .int (nI m), .int (nI (rnn g.2.1 s i).2), .int (nI i)] [] τ := by
        intro d
        induction d with
        | zero =>
          intro i τ hi hCt hF
          obtain rfl : i = m := by omega
          refine r_iload_n hK d_Gs_run_17 rfl rfl ?_
          refine r_iload_n hK d_Gs_run_18 rfl rfl ?_
          refine rn_icmp_ge (tgt := 55) hK d_Gs_run_19 (by decide) (by first | omega | (split <;> omega)) (by first | omega | (split <;> omega)) (fun _ => ?_) (fun hno => absurd hno (by omega))
          refine r_iload_n hK d_Gs_run_55 rfl rfl ?_
          exact hR.i d_Gs_run_56 rfl (⟨rfl, hCt, hF⟩)
        | succ d ih =>
          intro i τ hi hCt hF
          obtain ⟨hAt, ht12⟩ := AI_rnn hA i (by omega)
          have hlen := hAt.1.2.2.2.1
          have hstep : rnn g.2.1 s (i + 1) = if 0 < (rnn g.2.1 s i).1.2.length then (dlv (rnn g.2.1 s i).1 0, (rnn g.2.1 s i).2 + 1) else (tck g.2.1 (rnn g.2.1 s i).1, (rnn g.2.1 s i).2) := rfl
          have hih := fun τ => ih (i + 1) τ (by omega)
          by_cases h0 : 0 < (rnn g.2.1 s i).1.2.length
          · rw [hstep, if_pos h0] at hih
            have hdl := c_Gs_deliver (l := l) hg hCt hAt hru (nI 0)
            have hdr : dlvR (rnn g.2.1 s i).1 (nI 0) = (dlv (rnn g.2.1 s i).1 0, nI (dlvN (rnn g.2.1 s i).1 0)) := by unfold dlvR; rw [if_neg (ok_nI h0 (by omega)), nI_clamp (by omega)]
            rw [hdr] at hdl
            refine r_iload_n hK d_Gs_run_17 rfl rfl ?_
            refine r_iload_n hK d_Gs_run_18 rfl rfl ?_
            refine rn_icmp_ge (tgt := 55) hK d_Gs_run_19 (by decide) (by first | omega | (split <;> omega)) (by first | omega | (split <;> omega)) (fun hno => absurd hno (by omega)) (fun _ => ?_)
            refine r_aload_n hK d_Gs_run_22 rfl rfl ?_
            refine r_getR hK d_Gs_run_23 f_Gs_29 rfl (in_fix rfl) rfl rfl ?_
            refine r_getI hK d_Gs_run_26 f_Gs_131 rfl (in_fix rfl) rfl rfl hCt.2.1.1 ?_
            refine r_if_le (tgt := 44) hK d_Gs_run_29 (by decide) (fun hno => absurd hno (nI_nle h0 (by omega))) (fun _ => ?_)
            refine r_aload_n hK d_Gs_run_32 rfl rfl ?_
            refine r_iconst (v := nI 0) hK d_Gs_run_33 (by decide) ?_
            refine r_callVP hK d_Gs_run_34 m_Gs_134 rfl (in_fix rfl) (hdl) (by decide) rfl rfl rfl (fun r9 τ9 hP9 => ?_)
            obtain ⟨rfl, q2, q3⟩ := hP9
            refine r_pop hK d_Gs_run_37 rfl ?_
            refine r_iinc hK d_Gs_run_38 rfl (nI_1 _) rfl ?_
            refine r_goto (tgt := 49) hK d_Gs_run_41 (by decide) ?_
            refine r_iinc hK d_Gs_run_49 rfl (nI_1 _) rfl ?_
            refine r_goto (tgt := 17) hK d_Gs_run_52 (by decide) ?_
            exact hih _ q2 (fun k hk => by rw [q3 k hk]; exact hF k hk)
          · rw [hstep, if_neg h0] at hih
            have htk := c_Gs_tick (l := l) hg hCt hAt (by omega)
            have h00 : (rnn g.2.1 s i).1.2.length = 0 := by omega
            refine r_iload_n hK d_Gs_run_17 rfl rfl ?_
            refine r_iload_n hK d_Gs_run_18 rfl rfl ?_
            refine rn_icmp_ge (tgt := 55) hK d_Gs_run_19 (by decide) (by first | omega | (split <;> omega)) (by first | omega | (split <;> omega)) (fun hno => absurd hno (by omega)) (fun _ => ?_)
            refine r_aload_n hK d_Gs_run_22 rfl rfl ?_
            refine r_getR hK d_Gs_run_23 f_Gs_29 rfl (in_fix rfl) rfl rfl ?_
            refine r_getI hK d_Gs_run_26 f_Gs_131 rfl (in_fix rfl) rfl rfl hCt.2.1.1 ?_
            refine r_if_le (tgt := 44) hK d_Gs_run_29 (by decide) (fun _ => ?_) (fun hno => absurd ((by rw [h00]; decide)) hno)
            refine r_aload_n hK d_Gs_run_44 rfl rfl ?_
            refine r_callVP hK d_Gs_run_45 m_Gs_137 rfl (in_fix rfl) (htk) (by decide) rfl rfl rfl (fun r9 τ9 hP9 => ?_)
            obtain ⟨rfl, q2, q3⟩ := hP9
            refine r_pop hK d_Gs_run_48 rfl ?_
            refine r_iinc hK d_Gs_run_49 rfl (nI_1 _) rfl ?_
            refine r_goto (tgt := 17) hK d_Gs_run_52 (by decide) ?_
            exact hih _ q2 (fun k hk => by rw [q3 k hk]; exact hF k hk)
      refine r_iload_n hK d_Gs_run_0 rfl rfl ?_
      refine r_iconst (v := nI 1) hK d_Gs_run_1 (by decide) ?_
      refine r_icmp_lt (tgt := 11) hK d_Gs_run_2 (by decide) (fun hno => absurd hno (hb1)) (fun _ => ?_)
      refine r_iload_n hK d_Gs_run_5 rfl rfl ?_
      refine r_bipush (v := nI 20) hK d_Gs_run_6 (by decide) ?_
      refine r_icmp_le (tgt := 13) hK d_Gs_run_8 (by decide) (fun _ => ?_) (fun hno => absurd (Int32.not_lt.mp hb2) hno)
      refine r_iconst (v := nI 0) hK d_Gs_run_13 (by decide) ?_
      refine r_istore_n hK d_Gs_run_14 rfl rfl rfl ?_
      refine r_iconst (v := nI 0) hK d_Gs_run_15 (by decide) ?_
      refine r_istore_n hK d_Gs_run_16 rfl rfl rfl ?_
      exact hloop m 0 σ (by omega) hC (fun _ _ => rfl)
end Gs3
