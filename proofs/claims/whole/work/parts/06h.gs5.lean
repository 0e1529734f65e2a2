/-! GradientShards: count, ready, pull, add, advance -/
section Gs5
variable {l : Launch} {g : Gc} {σ : Sg} {sl ru N : Nat} {s : Sp}
theorem c_Gs_count (hg : Gok g) (hC : CP g.2.1 sl ru s σ) (i : Int32) : Ct l g y_Gs_count 1 [.ref (g.1 0 0), .int i] σ (PC g.2.1 sl ru (cntR s i) σ) := by
  obtain ⟨g0, g4, g5, g6, g7, g8, gc⟩ := hC.1
  obtain ⟨n1, n2, n3, n4⟩ := hC.2.1
  rcases bad_or 6 (by decide) i with hb | ⟨c, hc, rfl⟩
  · have hres : cntR s i = (s, -1) := by unfold cntR; rw [if_pos hb]
    rw [hres]
    have hout : i.toInt < 0 ∨ 5 < i.toInt := by
      rcases hb with h | h
      · left
        rw [Int32.lt_iff_toInt_lt] at h
        exact h
      · right
        rw [Int32.le_iff_toInt_le] at h
        have e : (nI 6).toInt = 6 := by decide
        omega
    refine ofK hg w_cd_Gs_count (by decide) (by decide) (by first | decide | simp) (by simp [Value.category]) ?_
    intro K hK hR
    have hK : Gd l g "GradientShards" b_Gs_count 2 _ K := hK
    refine r_iload_n hK d_Gs_count_0 rfl rfl ?_
    refine r_tableOut (tgt := 76) hK d_Gs_count_1 hout (by decide) ?_
    refine r_iconst (v := -1) hK d_Gs_count_76 (by decide) ?_
    exact hR.i d_Gs_count_77 rfl (⟨rfl, hC, fun _ _ => rfl⟩)
  · have hres : cntR s (nI c) = (s, nI (s.1 9 c 0)) := by unfold cntR; rw [if_neg (ok_nI hc (by decide)), nI_clamp (by omega)]
    rw [hres]
    refine ofK hg w_cd_Gs_count (by decide) (by decide) (by first | decide | simp) (by simp [Value.category]) ?_
    intro K hK hR
    have hK : Gd l g "GradientShards" b_Gs_count 2 _ K := hK
    rcases (by omega : c = 0 ∨ c = 1 ∨ c = 2 ∨ c = 3 ∨ c = 4 ∨ c = 5) with rfl | rfl | rfl | rfl | rfl | rfl
    · refine r_iload_n hK d_Gs_count_0 rfl rfl ?_
      refine r_tableIn (off := 39) (tgt := 40) hK d_Gs_count_1 (by decide) (by decide) (by decide) (by decide) ?_
      refine r_aload_n hK d_Gs_count_40 rfl rfl ?_
      refine r_getR hK d_Gs_count_41 f_Gs_29 rfl (in_fix rfl) rfl rfl ?_
      refine r_getI hK d_Gs_count_44 f_Gs_167 rfl (in_fix rfl) rfl rfl n2 ?_
      exact hR.i d_Gs_count_47 rfl (⟨rfl, hC, fun _ _ => rfl⟩)
    · refine r_iload_n hK d_Gs_count_0 rfl rfl ?_
      refine r_tableIn (off := 47) (tgt := 48) hK d_Gs_count_1 (by decide) (by decide) (by decide) (by decide) ?_
      refine r_aload_n hK d_Gs_count_48 rfl rfl ?_
      refine r_getR hK d_Gs_count_49 f_Gs_29 rfl (in_fix rfl) rfl rfl ?_
      refine r_getI hK d_Gs_count_52 f_Gs_170 rfl (in_fix rfl) rfl rfl n3 ?_
      exact hR.i d_Gs_count_55 rfl (⟨rfl, hC, fun _ _ => rfl⟩)
    · refine r_iload_n hK d_Gs_count_0 rfl rfl ?_
      refine r_tableIn (off := 55) (tgt := 56) hK d_Gs_count_1 (by decide) (by decide) (by decide) (by decide) ?_
      refine r_aload_n hK d_Gs_count_56 rfl rfl ?_
      refine r_getI hK d_Gs_count_57 f_Gs_128 rfl (in_fix rfl) rfl rfl g5 ?_
      exact hR.i d_Gs_count_60 rfl (⟨rfl, hC, fun _ _ => rfl⟩)
    · refine r_iload_n hK d_Gs_count_0 rfl rfl ?_
      refine r_tableIn (off := 60) (tgt := 61) hK d_Gs_count_1 (by decide) (by decide) (by decide) (by decide) ?_
      refine r_aload_n hK d_Gs_count_61 rfl rfl ?_
      refine r_getI hK d_Gs_count_62 f_Gs_173 rfl (in_fix rfl) rfl rfl g6 ?_
      exact hR.i d_Gs_count_65 rfl (⟨rfl, hC, fun _ _ => rfl⟩)
    · refine r_iload_n hK d_Gs_count_0 rfl rfl ?_
      refine r_tableIn (off := 65) (tgt := 66) hK d_Gs_count_1 (by decide) (by decide) (by decide) (by decide) ?_
      refine r_aload_n hK d_Gs_count_66 rfl rfl ?_
      refine r_getI hK d_Gs_count_67 f_Gs_155 rfl (in_fix rfl) rfl rfl g7 ?_
      exact hR.i d_Gs_count_70 rfl (⟨rfl, hC, fun _ _ => rfl⟩)
    · refine r_iload_n hK d_Gs_count_0 rfl rfl ?_
      refine r_tableIn (off := 70) (tgt := 71) hK d_Gs_count_1 (by decide) (by decide) (by decide) (by decide) ?_
      refine r_aload_n hK d_Gs_count_71 rfl rfl ?_
      refine r_getI hK d_Gs_count_72 f_Gs_152 rfl (in_fix rfl) rfl rfl g8 ?_
      exact hR.i d_Gs_count_75 rfl (⟨rfl, hC, fun _ _ => rfl⟩)
theorem c_Gs_ready (hg : Gok g) (hC : CP g.2.1 sl ru s σ) (hA : AI g.2.1 N s) (hsl : sl ≤ 3) (i k : Int32) : CI l g y_Gs_ready 1 [.ref (g.1 0 0), .int i, .int k] σ (nI (rdyB g.2.1 sl s i k)) σ := by
  have hw := hA.1.2.1
  have hw1 := hA.1.1
  have hN := hA.1.2.2.1
  rcases bad_or g.2.1 (by omega) i with hb | ⟨v, hv, rfl⟩
  · have hres : rdyB g.2.1 sl s i k = 0 := if_pos (Or.inl hb)
    rw [hres]
    refine ofK hg w_cd_Gs_ready (by decide) (by decide) (by first | decide | simp) (by simp [Value.category]) ?_
    intro K hK hR
    have hK : Gd l g "GradientShards" b_Gs_ready 4 _ K := hK
    refine r_aload_n hK d_Gs_ready_0 rfl rfl ?_
    refine r_iload_n hK d_Gs_ready_1 rfl rfl ?_
    refine r_callVI hK d_Gs_ready_2 m_Gs_33 rfl (in_fix rfl) (c_Gs_isWorker_f hg hb) (by decide) rfl rfl rfl ?_
    refine rn_if_eq (tgt := 15) hK d_Gs_ready_5 (by decide) (by first | omega | (split <;> omega)) (fun _ => ?_) (fun hno => absurd hno (by omega))
    refine r_iconst (v := nI 0) hK d_Gs_ready_15 (by decide) ?_
    exact hR.i d_Gs_ready_16 rfl (⟨rfl, rfl⟩)
  · rcases bad_or 6 (by decide) k with hb2 | ⟨kk, hk, rfl⟩
    · have hres : rdyB g.2.1 sl s (nI v) k = 0 := if_pos (Or.inr (Or.inl hb2))
      rw [hres]
      refine ofK hg w_cd_Gs_ready (by decide) (by decide) (by first | decide | simp) (by simp [Value.category]) ?_
      intro K hK hR
      have hK : Gd l g "GradientShards" b_Gs_ready 4 _ K := hK
      refine r_aload_n hK d_Gs_ready_0 rfl rfl ?_
      refine r_iload_n hK d_Gs_ready_1 rfl rfl ?_
      refine r_callVI hK d_Gs_ready_2 m_Gs_33 rfl (in_fix rfl) (c_Gs_isWorker_t hg hv hw) (by decide) rfl rfl rfl ?_
      refine rn_if_eq (tgt := 15) hK d_Gs_ready_5 (by decide) (by first | omega | (split <;> omega)) (fun hno => absurd hno (by omega)) (fun _ => ?_)
      refine r_iload_n hK d_Gs_ready_8 rfl rfl ?_
      refine r_callSI hK d_Gs_ready_9 m_Gs_37 (c_Gs_isKey_f hg hb2) (by decide) rfl rfl rfl ?_
      refine rn_if_ne (tgt := 17) hK d_Gs_ready_12 (by decide) (by first | omega | (split <;> omega)) (fun hno => absurd hno (by omega)) (fun _ => ?_)
      refine r_iconst (v := nI 0) hK d_Gs_ready_15 (by decide) ?_
      exact hR.i d_Gs_ready_16 rfl (⟨rfl, rfl⟩)
    · have hh : kk % 3 < 3 := Nat.mod_lt _ (by decide)
      have s8 := (hC.2.2.2.1 (kk % 3) hh).2.2.1
      have hd1 := (hA.2.2.2.1 (kk % 3) hh).1
      have hcv := hA.2.1 v hv
      have hgc := hC.1.2.2.2.2.2.2 v hv
      have e1 : rdyB g.2.1 sl s (nI v) (nI kk) = if s.1 7 (kk % 3) 0 = 1 ∨ don g.2.1 s.1 (kk % 3) + sl < s.1 0 v 0 then 0 else 1 := by
        unfold rdyB
        rw [nI_clamp (by omega), nI_clamp (by omega)]
        by_cases q : s.1 7 (kk % 3) 0 = 1 ∨ don g.2.1 s.1 (kk % 3) + sl < s.1 0 v 0
        · rw [if_pos q, if_pos (Or.inr (Or.inr q))]
        · rw [if_neg q, if_neg (fun z => z.elim (ok_nI hv (by omega)) (fun z => z.elim (ok_nI hk (by decide)) q))]
      rw [e1]
      by_cases h7 : s.1 7 (kk % 3) 0 = 1
      · rw [if_pos (Or.inl h7)]
        rw [h7] at s8
        refine ofK hg w_cd_Gs_ready (by decide) (by decide) (by first | decide | simp) (by simp [Value.category]) ?_
        intro K hK hR
        have hK : Gd l g "GradientShards" b_Gs_ready 4 _ K := hK
        refine r_aload_n hK d_Gs_ready_0 rfl rfl ?_
        refine r_iload_n hK d_Gs_ready_1 rfl rfl ?_
        refine r_callVI hK d_Gs_ready_2 m_Gs_33 rfl (in_fix rfl) (c_Gs_isWorker_t hg hv hw) (by decide) rfl rfl rfl ?_
        refine rn_if_eq (tgt := 15) hK d_Gs_ready_5 (by decide) (by first | omega | (split <;> omega)) (fun hno => absurd hno (by omega)) (fun _ => ?_)
        refine r_iload_n hK d_Gs_ready_8 rfl rfl ?_
        refine r_callSI hK d_Gs_ready_9 m_Gs_37 (c_Gs_isKey_t hg hk) (by decide) rfl rfl rfl ?_
        refine rn_if_ne (tgt := 17) hK d_Gs_ready_12 (by decide) (by first | omega | (split <;> omega)) (fun _ => ?_) (fun hno => absurd hno (by omega))
        refine r_aload_n hK d_Gs_ready_17 rfl rfl ?_
        refine r_getR hK d_Gs_ready_18 f_Gs_19 rfl (in_fix rfl) rfl rfl ?_
        refine r_iload_n hK d_Gs_ready_21 rfl rfl ?_
        refine r_iconst (v := nI 3) hK d_Gs_ready_22 (by decide) ?_
        refine r_irem hK d_Gs_ready_23 (by decide) (pk_rem (by omega) (by decide) (by decide)) ?_
        refine r_aald hK d_Gs_ready_24 rfl (Or.inl rfl) (in_fix rfl) (ix_nI (j := kk % 3) (by omega)) hh rfl ?_
        refine r_astore_n hK d_Gs_ready_25 rfl rfl rfl ?_
        refine r_aload_n hK d_Gs_ready_26 rfl rfl ?_
        refine r_getI hK d_Gs_ready_27 f_Gs_60 rfl (in_sh rfl (by assumption)) rfl rfl s8 ?_
        refine rn_if_eq (tgt := 55) hK d_Gs_ready_30 (by decide) (by first | omega | (split <;> omega)) (fun _ => ?_) (fun hno => absurd hno (by omega))
        refine r_iconst (v := nI 0) hK d_Gs_ready_55 (by decide) ?_
        exact hR.i d_Gs_ready_56 rfl (⟨rfl, rfl⟩)
      · have h70 : s.1 7 (kk % 3) 0 = 0 := by omega
        rw [h70] at s8
        have u6 := (hC.2.2.2.2 (kk % 3) hh h70).1.1
        have hdon : don g.2.1 s.1 (kk % 3) ≤ 1000 := minF_le _ _ _
        by_cases hlt : don g.2.1 s.1 (kk % 3) + sl < s.1 0 v 0
        · rw [if_pos (Or.inr hlt)]
          refine ofK hg w_cd_Gs_ready (by decide) (by decide) (by first | decide | simp) (by simp [Value.category]) ?_
          intro K hK hR
          have hK : Gd l g "GradientShards" b_Gs_ready 4 _ K := hK
          refine r_aload_n hK d_Gs_ready_0 rfl rfl ?_
          refine r_iload_n hK d_Gs_ready_1 rfl rfl ?_
          refine r_callVI hK d_Gs_ready_2 m_Gs_33 rfl (in_fix rfl) (c_Gs_isWorker_t hg hv hw) (by decide) rfl rfl rfl ?_
          refine rn_if_eq (tgt := 15) hK d_Gs_ready_5 (by decide) (by first | omega | (split <;> omega)) (fun hno => absurd hno (by omega)) (fun _ => ?_)
          refine r_iload_n hK d_Gs_ready_8 rfl rfl ?_
          refine r_callSI hK d_Gs_ready_9 m_Gs_37 (c_Gs_isKey_t hg hk) (by decide) rfl rfl rfl ?_
          refine rn_if_ne (tgt := 17) hK d_Gs_ready_12 (by decide) (by first | omega | (split <;> omega)) (fun _ => ?_) (fun hno => absurd hno (by omega))
          refine r_aload_n hK d_Gs_ready_17 rfl rfl ?_
          refine r_getR hK d_Gs_ready_18 f_Gs_19 rfl (in_fix rfl) rfl rfl ?_
          refine r_iload_n hK d_Gs_ready_21 rfl rfl ?_
          refine r_iconst (v := nI 3) hK d_Gs_ready_22 (by decide) ?_
          refine r_irem hK d_Gs_ready_23 (by decide) (pk_rem (by omega) (by decide) (by decide)) ?_
          refine r_aald hK d_Gs_ready_24 rfl (Or.inl rfl) (in_fix rfl) (ix_nI (j := kk % 3) (by omega)) hh rfl ?_
          refine r_astore_n hK d_Gs_ready_25 rfl rfl rfl ?_
          refine r_aload_n hK d_Gs_ready_26 rfl rfl ?_
          refine r_getI hK d_Gs_ready_27 f_Gs_60 rfl (in_sh rfl (by assumption)) rfl rfl s8 ?_
          refine rn_if_eq (tgt := 55) hK d_Gs_ready_30 (by decide) (by first | omega | (split <;> omega)) (fun hno => absurd hno (by omega)) (fun _ => ?_)
          refine r_aload_n hK d_Gs_ready_33 rfl rfl ?_
          refine r_getI hK d_Gs_ready_34 f_Gs_64 rfl (in_sh rfl (by assumption)) rfl rfl u6 ?_
          refine r_aload_n hK d_Gs_ready_37 rfl rfl ?_
          refine r_getR hK d_Gs_ready_38 f_Gs_13 rfl (in_fix rfl) rfl rfl ?_
          refine r_iload_n hK d_Gs_ready_41 rfl rfl ?_
          refine r_iald hK d_Gs_ready_42 rfl rfl (in_fix rfl) (ix_nI (j := v) (by omega)) hv hgc ?_
          refine r_aload_n hK d_Gs_ready_43 rfl rfl ?_
          refine r_getI hK d_Gs_ready_44 f_Gs_7 rfl (in_fix rfl) rfl rfl hC.1.1 ?_
          refine r_isub hK d_Gs_ready_47 rfl ?_
          refine r_icmp_lt (tgt := 55) hK d_Gs_ready_48 (by decide) (fun _ => ?_) (fun hno => absurd ((lt_subI (by omega) (by omega) (by omega)).mpr hlt) hno)
          refine r_iconst (v := nI 0) hK d_Gs_ready_55 (by decide) ?_
          exact hR.i d_Gs_ready_56 rfl (⟨rfl, rfl⟩)
        · rw [if_neg (fun z => z.elim h7 hlt)]
          refine ofK hg w_cd_Gs_ready (by decide) (by decide) (by first | decide | simp) (by simp [Value.category]) ?_
          intro K hK hR
          have hK : Gd l g "GradientShards" b_Gs_ready 4 _ K := hK
          refine r_aload_n hK d_Gs_ready_0 rfl rfl ?_
          refine r_iload_n hK d_Gs_ready_1 rfl rfl ?_
          refine r_callVI hK d_Gs_ready_2 m_Gs_33 rfl (in_fix rfl) (c_Gs_isWorker_t hg hv hw) (by decide) rfl rfl rfl ?_
          refine rn_if_eq (tgt := 15) hK d_Gs_ready_5 (by decide) (by first | omega | (split <;> omega)) (fun hno => absurd hno (by omega)) (fun _ => ?_)
          refine r_iload_n hK d_Gs_ready_8 rfl rfl ?_
          refine r_callSI hK d_Gs_ready_9 m_Gs_37 (c_Gs_isKey_t hg hk) (by decide) rfl rfl rfl ?_
          refine rn_if_ne (tgt := 17) hK d_Gs_ready_12 (by decide) (by first | omega | (split <;> omega)) (fun _ => ?_) (fun hno => absurd hno (by omega))
          refine r_aload_n hK d_Gs_ready_17 rfl rfl ?_
          refine r_getR hK d_Gs_ready_18 f_Gs_19 rfl (in_fix rfl) rfl rfl ?_
          refine r_iload_n hK d_Gs_ready_21 rfl rfl ?_
          refine r_iconst (v := nI 3) hK d_Gs_ready_22 (by decide) ?_
          refine r_irem hK d_Gs_ready_23 (by decide) (pk_rem (by omega) (by decide) (by decide)) ?_
          refine r_aald hK d_Gs_ready_24 rfl (Or.inl rfl) (in_fix rfl) (ix_nI (j := kk % 3) (by omega)) hh rfl ?_
          refine r_astore_n hK d_Gs_ready_25 rfl rfl rfl ?_
          refine r_aload_n hK d_Gs_ready_26 rfl rfl ?_
          refine r_getI hK d_Gs_ready_27 f_Gs_60 rfl (in_sh rfl (by assumption)) rfl rfl s8 ?_
          refine rn_if_eq (tgt := 55) hK d_Gs_ready_30 (by decide) (by first | omega | (split <;> omega)) (fun hno => absurd hno (by omega)) (fun _ => ?_)
          refine r_aload_n hK d_Gs_ready_33 rfl rfl ?_
          refine r_getI hK d_Gs_ready_34 f_Gs_64 rfl (in_sh rfl (by assumption)) rfl rfl u6 ?_
          refine r_aload_n hK d_Gs_ready_37 rfl rfl ?_
          refine r_getR hK d_Gs_ready_38 f_Gs_13 rfl (in_fix rfl) rfl rfl ?_
          refine r_iload_n hK d_Gs_ready_41 rfl rfl ?_
          refine r_iald hK d_Gs_ready_42 rfl rfl (in_fix rfl) (ix_nI (j := v) (by omega)) hv hgc ?_
          refine r_aload_n hK d_Gs_ready_43 rfl rfl ?_
          refine r_getI hK d_Gs_ready_44 f_Gs_7 rfl (in_fix rfl) rfl rfl hC.1.1 ?_
          refine r_isub hK d_Gs_ready_47 rfl ?_
          refine r_icmp_lt (tgt := 55) hK d_Gs_ready_48 (by decide) (fun hno => absurd hno (fun z => hlt ((lt_subI (by omega) (by omega) (by omega)).mp z))) (fun _ => ?_)
          refine r_iconst (v := nI 1) hK d_Gs_ready_51 (by decide) ?_
          refine r_goto (tgt := 56) hK d_Gs_ready_52 (by decide) ?_
          exact hR.i d_Gs_ready_56 rfl (⟨rfl, rfl⟩)
theorem c_Gs_pull (hg : Gok g) (hC : CP g.2.1 sl ru s σ) (hA : AI g.2.1 N s) (hsl : sl ≤ 3) (i k : Int32) : Ct l g y_Gs_pull 2 [.ref (g.1 0 0), .int i, .int k] σ (PC g.2.1 sl ru (pulR g.2.1 sl ru s i k) σ) := by
  have hrd := c_Gs_ready (l := l) hg hC hA hsl i k
  by_cases hr : rdyB g.2.1 sl s i k = 1
  · have hres : pulR g.2.1 sl ru s i k = (s, (wko ru g.2.1 s.1 k.toNatClampNeg (don g.2.1 s.1 (k.toNatClampNeg % 3))).1) := by unfold pulR; rw [if_pos hr]
    have hnb : ¬ (bad g.2.1 i ∨ bad 6 k ∨ s.1 7 (k.toNatClampNeg % 3) 0 = 1 ∨ don g.2.1 s.1 (k.toNatClampNeg % 3) + sl < s.1 0 i.toNatClampNeg 0) := fun q => by
      unfold rdyB at hr
      rw [if_pos q] at hr
      cases hr
    rw [hr] at hrd
    rcases bad_or 6 (by decide) k with hb2 | ⟨kk, hk, rfl⟩
    · exact absurd (Or.inr (Or.inl hb2)) hnb
    · rw [hres]
      rw [nI_clamp (by omega)] at hnb ⊢
      have hh : kk % 3 < 3 := Nat.mod_lt _ (by decide)
      have hd1 := (hA.2.2.2.1 (kk % 3) hh).1
      have h70 : s.1 7 (kk % 3) 0 = 0 := by
        by_cases q : s.1 7 (kk % 3) 0 = 1
        · exact absurd (Or.inr (Or.inr (Or.inl q))) hnb
        · omega
      have hv := ((hC.2.2.2.2 (kk % 3) hh h70).1.2 (kk / 3) (by omega)).1
      rw [show 3 * (kk / 3) + kk % 3 = kk by omega] at hv
      refine ofK hg w_cd_Gs_pull (by decide) (by decide) (by first | decide | simp) (by simp [Value.category]) ?_
      intro K hK hR
      have hK : Gd l g "GradientShards" b_Gs_pull 3 _ K := hK
      refine r_aload_n hK d_Gs_pull_0 rfl rfl ?_
      refine r_iload_n hK d_Gs_pull_1 rfl rfl ?_
      refine r_iload_n hK d_Gs_pull_2 rfl rfl ?_
      refine r_callVI hK d_Gs_pull_3 m_Gs_67 rfl (in_fix rfl) (hrd) (by decide) rfl rfl rfl ?_
      refine rn_if_eq (tgt := 27) hK d_Gs_pull_6 (by decide) (by first | omega | (split <;> omega)) (fun hno => absurd hno (by omega)) (fun _ => ?_)
      refine r_aload_n hK d_Gs_pull_9 rfl rfl ?_
      refine r_getR hK d_Gs_pull_10 f_Gs_19 rfl (in_fix rfl) rfl rfl ?_
      refine r_iload_n hK d_Gs_pull_13 rfl rfl ?_
      refine r_iconst (v := nI 3) hK d_Gs_pull_14 (by decide) ?_
      refine r_irem hK d_Gs_pull_15 (by decide) (pk_rem (by omega) (by decide) (by decide)) ?_
      refine r_aald hK d_Gs_pull_16 rfl (Or.inl rfl) (in_fix rfl) (ix_nI (j := kk % 3) (by omega)) hh rfl ?_
      refine r_getR hK d_Gs_pull_17 f_Gs_71 rfl (in_sh rfl (by assumption)) rfl rfl ?_
      refine r_iload_n hK d_Gs_pull_20 rfl rfl ?_
      refine r_iconst (v := nI 3) hK d_Gs_pull_21 (by decide) ?_
      refine r_idiv hK d_Gs_pull_22 (by decide) (pk_div (by omega) (by decide) (by decide)) ?_
      refine r_iald hK d_Gs_pull_23 rfl rfl (in_sh rfl (by assumption)) (ix_nI (j := kk / 3) (by omega)) (by show kk / 3 < 2; omega) hv ?_
      refine r_goto (tgt := 28) hK d_Gs_pull_24 (by decide) ?_
      exact hR.i d_Gs_pull_28 rfl (⟨rfl, hC, fun _ _ => rfl⟩)
  · have hr0 : rdyB g.2.1 sl s i k = 0 := by
      unfold rdyB at hr ⊢
      split at hr
      · rw [if_pos (by assumption)]
      · exact absurd rfl hr
    have hres : pulR g.2.1 sl ru s i k = (s, nI 0) := by unfold pulR; rw [if_neg hr]
    rw [hr0] at hrd
    rw [hres]
    refine ofK hg w_cd_Gs_pull (by decide) (by decide) (by first | decide | simp) (by simp [Value.category]) ?_
    intro K hK hR
    have hK : Gd l g "GradientShards" b_Gs_pull 3 _ K := hK
    refine r_aload_n hK d_Gs_pull_0 rfl rfl ?_
    refine r_iload_n hK d_Gs_pull_1 rfl rfl ?_
    refine r_iload_n hK d_Gs_pull_2 rfl rfl ?_
    refine r_callVI hK d_Gs_pull_3 m_Gs_67 rfl (in_fix rfl) (hrd) (by decide) rfl rfl rfl ?_
    refine rn_if_eq (tgt := 27) hK d_Gs_pull_6 (by decide) (by first | omega | (split <;> omega)) (fun _ => ?_) (fun hno => absurd hno (by omega))
    refine r_iconst (v := nI 0) hK d_Gs_pull_27 (by decide) ?_
    exact hR.i d_Gs_pull_28 rfl (⟨rfl, hC, fun _ _ => rfl⟩)
theorem c_Gs_readyP (hg : Gok g) (hC : CP g.2.1 sl ru s σ) (hA : AI g.2.1 N s) (hsl : sl ≤ 3) (i k : Int32) : CI l g y_Gs_ready 1 [.ref (g.1 0 0), .int i, .int k] σ (rdyR g.2.1 sl s i k).2 σ := c_Gs_ready hg hC hA hsl i k
theorem c_Gs_add (hg : Gok g) (hC : CP g.2.1 sl ru s σ) (hA : AI g.2.1 N s) (hsl : sl ≤ 3) (i k q : Int32) : Ct l g y_Gs_add 4 [.ref (g.1 0 0), .int i, .int k, .int q] σ (PC g.2.1 sl ru (addR g.2.1 sl s i k q) σ) := by
  have hw := hA.1.2.1
  have hN := hA.1.2.2.1
  rcases bad_or g.2.1 (by omega) i with hb | ⟨v, hv, rfl⟩
  · have hres : addR g.2.1 sl s i k q = (s, nI 0) := if_pos (Or.inl hb)
    rw [hres]
    refine ofK hg w_cd_Gs_add (by decide) (by decide) (by first | decide | simp) (by simp [Value.category]) ?_
    intro K hK hR
    have hK : Gd l g "GradientShards" b_Gs_add 5 _ K := hK
    refine r_aload_n hK d_Gs_add_0 rfl rfl ?_
    refine r_iload_n hK d_Gs_add_1 rfl rfl ?_
    refine r_callVI hK d_Gs_add_2 m_Gs_33 rfl (in_fix rfl) (c_Gs_isWorker_f hg hb) (by decide) rfl rfl rfl ?_
    refine rn_if_eq (tgt := 35) hK d_Gs_add_5 (by decide) (by first | omega | (split <;> omega)) (fun _ => ?_) (fun hno => absurd hno (by omega))
    refine r_iconst (v := nI 0) hK d_Gs_add_35 (by decide) ?_
    exact hR.i d_Gs_add_36 rfl (⟨rfl, hC, fun _ _ => rfl⟩)
  · rcases bad_or 6 (by decide) k with hb2 | ⟨kk, hk, rfl⟩
    · have hres : addR g.2.1 sl s (nI v) k q = (s, nI 0) := if_pos (Or.inr (Or.inl hb2))
      rw [hres]
      refine ofK hg w_cd_Gs_add (by decide) (by decide) (by first | decide | simp) (by simp [Value.category]) ?_
      intro K hK hR
      have hK : Gd l g "GradientShards" b_Gs_add 5 _ K := hK
      refine r_aload_n hK d_Gs_add_0 rfl rfl ?_
      refine r_iload_n hK d_Gs_add_1 rfl rfl ?_
      refine r_callVI hK d_Gs_add_2 m_Gs_33 rfl (in_fix rfl) (c_Gs_isWorker_t hg hv hw) (by decide) rfl rfl rfl ?_
      refine rn_if_eq (tgt := 35) hK d_Gs_add_5 (by decide) (by first | omega | (split <;> omega)) (fun hno => absurd hno (by omega)) (fun _ => ?_)
      refine r_iload_n hK d_Gs_add_8 rfl rfl ?_
      refine r_callSI hK d_Gs_add_9 m_Gs_37 (c_Gs_isKey_f hg hb2) (by decide) rfl rfl rfl ?_
      refine rn_if_eq (tgt := 35) hK d_Gs_add_12 (by decide) (by first | omega | (split <;> omega)) (fun _ => ?_) (fun hno => absurd hno (by omega))
      refine r_iconst (v := nI 0) hK d_Gs_add_35 (by decide) ?_
      exact hR.i d_Gs_add_36 rfl (⟨rfl, hC, fun _ _ => rfl⟩)
    · by_cases hq1 : q < -99
      · have hres : addR g.2.1 sl s (nI v) (nI kk) q = (s, nI 0) := if_pos (Or.inr (Or.inr (Or.inl hq1)))
        rw [hres]
        refine ofK hg w_cd_Gs_add (by decide) (by decide) (by first | decide | simp) (by simp [Value.category]) ?_
        intro K hK hR
        have hK : Gd l g "GradientShards" b_Gs_add 5 _ K := hK
        refine r_aload_n hK d_Gs_add_0 rfl rfl ?_
        refine r_iload_n hK d_Gs_add_1 rfl rfl ?_
        refine r_callVI hK d_Gs_add_2 m_Gs_33 rfl (in_fix rfl) (c_Gs_isWorker_t hg hv hw) (by decide) rfl rfl rfl ?_
        refine rn_if_eq (tgt := 35) hK d_Gs_add_5 (by decide) (by first | omega | (split <;> omega)) (fun hno => absurd hno (by omega)) (fun _ => ?_)
        refine r_iload_n hK d_Gs_add_8 rfl rfl ?_
        refine r_callSI hK d_Gs_add_9 m_Gs_37 (c_Gs_isKey_t hg hk) (by decide) rfl rfl rfl ?_
        refine rn_if_eq (tgt := 35) hK d_Gs_add_12 (by decide) (by first | omega | (split <;> omega)) (fun hno => absurd hno (by omega)) (fun _ => ?_)
        refine r_iload_n hK d_Gs_add_15 rfl rfl ?_
        refine r_bipush (v := -99) hK d_Gs_add_16 (by decide) ?_
        refine r_icmp_lt (tgt := 35) hK d_Gs_add_18 (by decide) (fun _ => ?_) (fun hno => absurd (hq1) hno)
        refine r_iconst (v := nI 0) hK d_Gs_add_35 (by decide) ?_
        exact hR.i d_Gs_add_36 rfl (⟨rfl, hC, fun _ _ => rfl⟩)
      · by_cases hq2 : nI 99 < q
        · have hres : addR g.2.1 sl s (nI v) (nI kk) q = (s, nI 0) := if_pos (Or.inr (Or.inr (Or.inr (Or.inl hq2))))
          rw [hres]
          refine ofK hg w_cd_Gs_add (by decide) (by decide) (by first | decide | simp) (by simp [Value.category]) ?_
          intro K hK hR
          have hK : Gd l g "GradientShards" b_Gs_add 5 _ K := hK
          refine r_aload_n hK d_Gs_add_0 rfl rfl ?_
          refine r_iload_n hK d_Gs_add_1 rfl rfl ?_
          refine r_callVI hK d_Gs_add_2 m_Gs_33 rfl (in_fix rfl) (c_Gs_isWorker_t hg hv hw) (by decide) rfl rfl rfl ?_
          refine rn_if_eq (tgt := 35) hK d_Gs_add_5 (by decide) (by first | omega | (split <;> omega)) (fun hno => absurd hno (by omega)) (fun _ => ?_)
          refine r_iload_n hK d_Gs_add_8 rfl rfl ?_
          refine r_callSI hK d_Gs_add_9 m_Gs_37 (c_Gs_isKey_t hg hk) (by decide) rfl rfl rfl ?_
          refine rn_if_eq (tgt := 35) hK d_Gs_add_12 (by decide) (by first | omega | (split <;> omega)) (fun hno => absurd hno (by omega)) (fun _ => ?_)
          refine r_iload_n hK d_Gs_add_15 rfl rfl ?_
          refine r_bipush (v := -99) hK d_Gs_add_16 (by decide) ?_
          refine r_icmp_lt (tgt := 35) hK d_Gs_add_18 (by decide) (fun hno => absurd hno (hq1)) (fun _ => ?_)
          refine r_iload_n hK d_Gs_add_21 rfl rfl ?_
          refine r_bipush (v := nI 99) hK d_Gs_add_22 (by decide) ?_
          refine r_icmp_gt (tgt := 35) hK d_Gs_add_24 (by decide) (fun _ => ?_) (fun hno => absurd (hq2) hno)
          refine r_iconst (v := nI 0) hK d_Gs_add_35 (by decide) ?_
          exact hR.i d_Gs_add_36 rfl (⟨rfl, hC, fun _ _ => rfl⟩)
        · have hgc := hC.1.2.2.2.2.2.2
          have hheld := c_Gs_isHeld (l := l) (c := fun v => s.1 0 v 0) hg hv hw hgc (fun j hj => by have := hA.2.1 j hj; show s.1 0 j 0 < _; omega) hC.1.1 (by omega)
          by_cases hwt : wtd g.2.1 sl s.1 v
          · have hres : addR g.2.1 sl s (nI v) (nI kk) q = (s, nI 0) := if_pos (Or.inr (Or.inr (Or.inr (Or.inr (Or.inl (by rw [nI_clamp (by omega)]; exact hwt))))))
            rw [hres]
            rw [if_pos hwt] at hheld
            refine ofK hg w_cd_Gs_add (by decide) (by decide) (by first | decide | simp) (by simp [Value.category]) ?_
            intro K hK hR
            have hK : Gd l g "GradientShards" b_Gs_add 5 _ K := hK
            refine r_aload_n hK d_Gs_add_0 rfl rfl ?_
            refine r_iload_n hK d_Gs_add_1 rfl rfl ?_
            refine r_callVI hK d_Gs_add_2 m_Gs_33 rfl (in_fix rfl) (c_Gs_isWorker_t hg hv hw) (by decide) rfl rfl rfl ?_
            refine rn_if_eq (tgt := 35) hK d_Gs_add_5 (by decide) (by first | omega | (split <;> omega)) (fun hno => absurd hno (by omega)) (fun _ => ?_)
            refine r_iload_n hK d_Gs_add_8 rfl rfl ?_
            refine r_callSI hK d_Gs_add_9 m_Gs_37 (c_Gs_isKey_t hg hk) (by decide) rfl rfl rfl ?_
            refine rn_if_eq (tgt := 35) hK d_Gs_add_12 (by decide) (by first | omega | (split <;> omega)) (fun hno => absurd hno (by omega)) (fun _ => ?_)
            refine r_iload_n hK d_Gs_add_15 rfl rfl ?_
            refine r_bipush (v := -99) hK d_Gs_add_16 (by decide) ?_
            refine r_icmp_lt (tgt := 35) hK d_Gs_add_18 (by decide) (fun hno => absurd hno (hq1)) (fun _ => ?_)
            refine r_iload_n hK d_Gs_add_21 rfl rfl ?_
            refine r_bipush (v := nI 99) hK d_Gs_add_22 (by decide) ?_
            refine r_icmp_gt (tgt := 35) hK d_Gs_add_24 (by decide) (fun hno => absurd hno (hq2)) (fun _ => ?_)
            refine r_aload_n hK d_Gs_add_27 rfl rfl ?_
            refine r_iload_n hK d_Gs_add_28 rfl rfl ?_
            refine r_callVI hK d_Gs_add_29 m_Gs_40 rfl (in_fix rfl) (hheld) (by decide) rfl rfl rfl ?_
            refine rn_if_eq (tgt := 37) hK d_Gs_add_32 (by decide) (by first | omega | (split <;> omega)) (fun hno => absurd hno (by omega)) (fun _ => ?_)
            refine r_iconst (v := nI 0) hK d_Gs_add_35 (by decide) ?_
            exact hR.i d_Gs_add_36 rfl (⟨rfl, hC, fun _ _ => rfl⟩)
          · rw [if_neg hwt] at hheld
            have hh : kk % 3 < 3 := Nat.mod_lt _ (by decide)
            have hlk : 3 * v + kk % 3 < 3 * g.2.1 := by omega
            obtain ⟨p0, p1, p6, p7, p8, -, -⟩ := hC.2.2.1 (3 * v + kk % 3) hlk
            obtain ⟨l1, l2, l3, l4, -⟩ := hA.2.2.1 (3 * v + kk % 3) hlk
            have hkept := c_Lk_keptNumber (l := l) hg hlk p6 p7 (by omega)
            by_cases hkq : 20 ≤ keq s (3 * v + kk % 3)
            · have hres : addR g.2.1 sl s (nI v) (nI kk) q = (s, nI 0) := if_pos (Or.inr (Or.inr (Or.inr (Or.inr (Or.inr (by rw [nI_clamp (by omega), nI_clamp (by omega)]; exact hkq))))))
              rw [hres]
              unfold keq at hkq
              refine ofK hg w_cd_Gs_add (by decide) (by decide) (by first | decide | simp) (by simp [Value.category]) ?_
              intro K hK hR
              have hK : Gd l g "GradientShards" b_Gs_add 5 _ K := hK
              refine r_aload_n hK d_Gs_add_0 rfl rfl ?_
              refine r_iload_n hK d_Gs_add_1 rfl rfl ?_
              refine r_callVI hK d_Gs_add_2 m_Gs_33 rfl (in_fix rfl) (c_Gs_isWorker_t hg hv hw) (by decide) rfl rfl rfl ?_
              refine rn_if_eq (tgt := 35) hK d_Gs_add_5 (by decide) (by first | omega | (split <;> omega)) (fun hno => absurd hno (by omega)) (fun _ => ?_)
              refine r_iload_n hK d_Gs_add_8 rfl rfl ?_
              refine r_callSI hK d_Gs_add_9 m_Gs_37 (c_Gs_isKey_t hg hk) (by decide) rfl rfl rfl ?_
              refine rn_if_eq (tgt := 35) hK d_Gs_add_12 (by decide) (by first | omega | (split <;> omega)) (fun hno => absurd hno (by omega)) (fun _ => ?_)
              refine r_iload_n hK d_Gs_add_15 rfl rfl ?_
              refine r_bipush (v := -99) hK d_Gs_add_16 (by decide) ?_
              refine r_icmp_lt (tgt := 35) hK d_Gs_add_18 (by decide) (fun hno => absurd hno (hq1)) (fun _ => ?_)
              refine r_iload_n hK d_Gs_add_21 rfl rfl ?_
              refine r_bipush (v := nI 99) hK d_Gs_add_22 (by decide) ?_
              refine r_icmp_gt (tgt := 35) hK d_Gs_add_24 (by decide) (fun hno => absurd hno (hq2)) (fun _ => ?_)
              refine r_aload_n hK d_Gs_add_27 rfl rfl ?_
              refine r_iload_n hK d_Gs_add_28 rfl rfl ?_
              refine r_callVI hK d_Gs_add_29 m_Gs_40 rfl (in_fix rfl) (hheld) (by decide) rfl rfl rfl ?_
              refine rn_if_eq (tgt := 37) hK d_Gs_add_32 (by decide) (by first | omega | (split <;> omega)) (fun _ => ?_) (fun hno => absurd hno (by omega))
              refine r_aload_n hK d_Gs_add_37 rfl rfl ?_
              refine r_iload_n hK d_Gs_add_38 rfl rfl ?_
              refine r_iload_n hK d_Gs_add_39 rfl rfl ?_
              refine r_iconst (v := nI 3) hK d_Gs_add_40 (by decide) ?_
              refine r_irem hK d_Gs_add_41 (by decide) (pk_rem (by omega) (by decide) (by decide)) ?_
              refine r_callVR hK d_Gs_add_42 m_Gs_43 rfl (in_fix rfl) (c_Gs_linkOf hg hh hv hw) (by decide) rfl rfl rfl ?_
              refine r_astore hK d_Gs_add_45 rfl rfl ?_
              refine r_aload hK d_Gs_add_47 rfl ?_
              refine r_callVI hK d_Gs_add_49 m_Gs_47 rfl (in_lk rfl (by assumption)) (hkept) (by decide) rfl rfl rfl ?_
              refine r_bipush (v := nI 20) hK d_Gs_add_52 (by decide) ?_
              refine rn_icmp_lt (tgt := 59) hK d_Gs_add_54 (by decide) (by first | omega | (split <;> omega)) (by first | omega | (split <;> omega)) (fun hno => absurd hno (by omega)) (fun _ => ?_)
              refine r_iconst (v := nI 0) hK d_Gs_add_57 (by decide) ?_
              exact hR.i d_Gs_add_58 rfl (⟨rfl, hC, fun _ _ => rfl⟩)
            · obtain ⟨j, hj1, hj2, hj3, hj4⟩ := g_of hq1 hq2
              have hres : addR g.2.1 sl s (nI v) (nI kk) q = (mkm s (3 * v + kk % 3) (1000 * kk + j), nI 1) := by
                unfold addR
                rw [nI_clamp (by omega), nI_clamp (by omega), hj4, nI_clamp (by omega), if_neg (fun z => by
                  rcases z with z | z | z | z | z | z
                  · exact ok_nI hv (by omega) z
                  · exact ok_nI hk (by decide) z
                  · exact hq1 z
                  · exact hq2 z
                  · exact hwt z
                  · exact hkq z)]
              rw [hres]
              unfold keq at hkq
              have hm := CP_mkm (m := 1000 * kk + j) (p := nI (kk / 3)) (q := q) hC hA hlk ⟨fun z => by unfold END at z; omega, fun _ => ⟨by rw [show (1000 * kk + j) / 1000 = kk by omega], by rw [show (1000 * kk + j) % 1000 = j by omega]; exact hj3⟩⟩
              refine ofK hg w_cd_Gs_add (by decide) (by decide) (by first | decide | simp) (by simp [Value.category]) ?_
              intro K hK hR
              have hK : Gd l g "GradientShards" b_Gs_add 5 _ K := hK
              refine r_aload_n hK d_Gs_add_0 rfl rfl ?_
              refine r_iload_n hK d_Gs_add_1 rfl rfl ?_
              refine r_callVI hK d_Gs_add_2 m_Gs_33 rfl (in_fix rfl) (c_Gs_isWorker_t hg hv hw) (by decide) rfl rfl rfl ?_
              refine rn_if_eq (tgt := 35) hK d_Gs_add_5 (by decide) (by first | omega | (split <;> omega)) (fun hno => absurd hno (by omega)) (fun _ => ?_)
              refine r_iload_n hK d_Gs_add_8 rfl rfl ?_
              refine r_callSI hK d_Gs_add_9 m_Gs_37 (c_Gs_isKey_t hg hk) (by decide) rfl rfl rfl ?_
              refine rn_if_eq (tgt := 35) hK d_Gs_add_12 (by decide) (by first | omega | (split <;> omega)) (fun hno => absurd hno (by omega)) (fun _ => ?_)
              refine r_iload_n hK d_Gs_add_15 rfl rfl ?_
              refine r_bipush (v := -99) hK d_Gs_add_16 (by decide) ?_
              refine r_icmp_lt (tgt := 35) hK d_Gs_add_18 (by decide) (fun hno => absurd hno (hq1)) (fun _ => ?_)
              refine r_iload_n hK d_Gs_add_21 rfl rfl ?_
              refine r_bipush (v := nI 99) hK d_Gs_add_22 (by decide) ?_
              refine r_icmp_gt (tgt := 35) hK d_Gs_add_24 (by decide) (fun hno => absurd hno (hq2)) (fun _ => ?_)
              refine r_aload_n hK d_Gs_add_27 rfl rfl ?_
              refine r_iload_n hK d_Gs_add_28 rfl rfl ?_
              refine r_callVI hK d_Gs_add_29 m_Gs_40 rfl (in_fix rfl) (hheld) (by decide) rfl rfl rfl ?_
              refine rn_if_eq (tgt := 37) hK d_Gs_add_32 (by decide) (by first | omega | (split <;> omega)) (fun _ => ?_) (fun hno => absurd hno (by omega))
              refine r_aload_n hK d_Gs_add_37 rfl rfl ?_
              refine r_iload_n hK d_Gs_add_38 rfl rfl ?_
              refine r_iload_n hK d_Gs_add_39 rfl rfl ?_
              refine r_iconst (v := nI 3) hK d_Gs_add_40 (by decide) ?_
              refine r_irem hK d_Gs_add_41 (by decide) (pk_rem (by omega) (by decide) (by decide)) ?_
              refine r_callVR hK d_Gs_add_42 m_Gs_43 rfl (in_fix rfl) (c_Gs_linkOf hg hh hv hw) (by decide) rfl rfl rfl ?_
              refine r_astore hK d_Gs_add_45 rfl rfl ?_
              refine r_aload hK d_Gs_add_47 rfl ?_
              refine r_callVI hK d_Gs_add_49 m_Gs_47 rfl (in_lk rfl (by assumption)) (hkept) (by decide) rfl rfl rfl ?_
              refine r_bipush (v := nI 20) hK d_Gs_add_52 (by decide) ?_
              refine rn_icmp_lt (tgt := 59) hK d_Gs_add_54 (by decide) (by first | omega | (split <;> omega)) (by first | omega | (split <;> omega)) (fun _ => ?_) (fun hno => absurd hno (by omega))
              refine r_aload_n hK d_Gs_add_59 rfl rfl ?_
              refine r_aload hK d_Gs_add_60 rfl ?_
              refine r_iload_n hK d_Gs_add_62 rfl rfl ?_
              refine r_iconst (v := nI 3) hK d_Gs_add_63 (by decide) ?_
              refine r_idiv hK d_Gs_add_64 (by decide) (pk_div (by omega) (by decide) (by decide)) ?_
              refine r_iload_n hK d_Gs_add_65 rfl rfl ?_
              refine r_callVV hK d_Gs_add_66 m_Gs_53 rfl (in_fix rfl) (c_Gs_makeMessage hg hlk p0 p1 p6 hC.1.2.1 hC.2.1.1 hA.1.2.2.2.1 (by omega)) (by decide) rfl rfl rfl ?_
              refine r_iconst (v := nI 1) hK d_Gs_add_69 (by decide) ?_
              exact hR.i d_Gs_add_70 rfl (⟨rfl, hm, fun k hk => mmC_k hk⟩)
theorem c_Gs_advance (hg : Gok g) (hC : CP g.2.1 sl ru s σ) (hA : AI g.2.1 N s) (hsl : sl ≤ 3) (hmk : ∀ l, l < 3 * g.2.1 → s.1 1 l 0 < N) (i : Int32) : Ct l g y_Gs_advance 4 [.ref (g.1 0 0), .int i] σ (PC g.2.1 sl ru (advR g.2.1 sl s i) σ) := by
  have hw := hA.1.2.1
  have hN := hA.1.2.2.1
  rcases bad_or g.2.1 (by omega) i with hb | ⟨v, hv, rfl⟩
  · have hres : advR g.2.1 sl s i = (s, nI 0) := if_pos (Or.inl hb)
    rw [hres]
    refine ofK hg w_cd_Gs_advance (by decide) (by decide) (by first | decide | simp) (by simp [Value.category]) ?_
    intro K hK hR
    have hK : Gd l g "GradientShards" b_Gs_advance 3 _ K := hK
    refine r_aload_n hK d_Gs_advance_0 rfl rfl ?_
    refine r_iload_n hK d_Gs_advance_1 rfl rfl ?_
    refine r_callVI hK d_Gs_advance_2 m_Gs_33 rfl (in_fix rfl) (c_Gs_isWorker_f hg hb) (by decide) rfl rfl rfl ?_
    refine rn_if_eq (tgt := 24) hK d_Gs_advance_5 (by decide) (by first | omega | (split <;> omega)) (fun _ => ?_) (fun hno => absurd hno (by omega))
    refine r_iconst (v := nI 0) hK d_Gs_advance_24 (by decide) ?_
    exact hR.i d_Gs_advance_25 rfl (⟨rfl, hC, fun _ _ => rfl⟩)
  · have hgc := hC.1.2.2.2.2.2.2
    have hheld := c_Gs_isHeld (l := l) (c := fun v => s.1 0 v 0) hg hv hw hgc (fun j hj => by have := hA.2.1 j hj; show s.1 0 j 0 < _; omega) hC.1.1 (by omega)
    by_cases hwt : wtd g.2.1 sl s.1 v
    · have hres : advR g.2.1 sl s (nI v) = (s, nI 0) := if_pos (Or.inr (Or.inl (by rw [nI_clamp (by omega)]; exact hwt)))
      rw [hres]
      rw [if_pos hwt] at hheld
      refine ofK hg w_cd_Gs_advance (by decide) (by decide) (by first | decide | simp) (by simp [Value.category]) ?_
      intro K hK hR
      have hK : Gd l g "GradientShards" b_Gs_advance 3 _ K := hK
      refine r_aload_n hK d_Gs_advance_0 rfl rfl ?_
      refine r_iload_n hK d_Gs_advance_1 rfl rfl ?_
      refine r_callVI hK d_Gs_advance_2 m_Gs_33 rfl (in_fix rfl) (c_Gs_isWorker_t hg hv hw) (by decide) rfl rfl rfl ?_
      refine rn_if_eq (tgt := 24) hK d_Gs_advance_5 (by decide) (by first | omega | (split <;> omega)) (fun hno => absurd hno (by omega)) (fun _ => ?_)
      refine r_aload_n hK d_Gs_advance_8 rfl rfl ?_
      refine r_iload_n hK d_Gs_advance_9 rfl rfl ?_
      refine r_callVI hK d_Gs_advance_10 m_Gs_40 rfl (in_fix rfl) (hheld) (by decide) rfl rfl rfl ?_
      refine rn_if_ne (tgt := 24) hK d_Gs_advance_13 (by decide) (by first | omega | (split <;> omega)) (fun _ => ?_) (fun hno => absurd hno (by omega))
      refine r_iconst (v := nI 0) hK d_Gs_advance_24 (by decide) ?_
      exact hR.i d_Gs_advance_25 rfl (⟨rfl, hC, fun _ _ => rfl⟩)
    · rw [if_neg hwt] at hheld
      have hktm := c_Gs_keepsTooMany (l := l) (A := fun h => s.1 1 (3 * v + h) 0) (B := fun h => s.1 2 (3 * v + h) 0) hg hv hw (fun h hh => (hC.2.2.1 (3 * v + h) (by omega)).2.2.1) (fun h hh => (hC.2.2.1 (3 * v + h) (by omega)).2.2.2.1) (fun h hh => by
        obtain ⟨l1, l2, l3, l4, -⟩ := hA.2.2.1 (3 * v + h) (by omega)
        exact ⟨by show s.1 2 (3 * v + h) 0 ≤ s.1 1 (3 * v + h) 0; omega, by show s.1 1 (3 * v + h) 0 < _; omega⟩)
      have hktm : CI l g y_Gs_keepsTooManyToEnd 1 [.ref (g.1 0 0), .int (nI v)] σ (nI (if keq s (3 * v + 0) < 24 ∧ keq s (3 * v + 1) < 24 ∧ keq s (3 * v + 2) < 24 then 0 else 1)) σ := hktm
      by_cases hkq : keq s (3 * v + 0) < 24 ∧ keq s (3 * v + 1) < 24 ∧ keq s (3 * v + 2) < 24
      · have hres : advR g.2.1 sl s (nI v) = ((ua (mk3 s v 3).1 0 v 0 ((mk3 s v 3).1 0 v 0 + 1), (mk3 s v 3).2), nI 1) := by
          unfold advR
          rw [nI_clamp (by omega), if_neg (fun z => by
            rcases z with z | z | z
            · exact ok_nI hv (by omega) z
            · exact hwt z
            · exact z hkq)]
        rw [hres]
        rw [if_pos hkq] at hktm
        have hk3 : ∀ h, h < 3 → keq s (3 * v + h) < 24 := fun h hh => by
          rcases (by omega : h = 0 ∨ h = 1 ∨ h = 2) with e | e | e <;> subst e
          · exact hkq.1
          · exact hkq.2.1
          · exact hkq.2.2
        refine ofK hg w_cd_Gs_advance (by decide) (by decide) (by first | decide | simp) (by simp [Value.category]) ?_
        intro K hK hR
        have hK : Gd l g "GradientShards" b_Gs_advance 3 _ K := hK
        have hloop : ∀ d h τ, h + d = 3 → CP g.2.1 sl ru (mk3 s v h) τ → (∀ k, 16 ≤ k → τ k = σ k) → K 28 [.ref (g.1 0 0), .int (nI v), .int (nI h)] [] τ := by
          intro d
          induction d with
          | zero =>
            intro h τ hd hCt hF
            obtain rfl : h = 3 := by omega
            refine r_iload_n hK d_Gs_advance_28 rfl rfl ?_
            refine r_iconst (v := nI 3) hK d_Gs_advance_29 (by decide) ?_
            refine rn_icmp_ge (tgt := 51) hK d_Gs_advance_30 (by decide) (by first | omega | (split <;> omega)) (by first | omega | (split <;> omega)) (fun _ => ?_) (fun hno => absurd hno (by omega))
            refine r_aload_n hK d_Gs_advance_51 rfl rfl ?_
            refine r_getR hK d_Gs_advance_52 f_Gs_13 rfl (in_fix rfl) rfl rfl ?_
            refine r_iload_n hK d_Gs_advance_55 rfl rfl ?_
            refine r_dup2 hK d_Gs_advance_56 rfl rfl ?_
            refine r_iald hK d_Gs_advance_57 rfl rfl (in_fix rfl) (ix_nI (j := v) (by omega)) hv (hCt.1.2.2.2.2.2.2 v hv) ?_
            refine r_iconst (v := nI 1) hK d_Gs_advance_58 (by decide) ?_
            refine r_iadd hK d_Gs_advance_59 (nI_add _ _) ?_
            refine r_iast hK d_Gs_advance_60 rfl rfl (in_fix rfl) (ix_nI (j := v) (by omega)) hv ?_
            refine r_iconst (v := nI 1) hK d_Gs_advance_61 (by decide) ?_
            exact hR.i d_Gs_advance_62 rfl (⟨rfl, CP_clk hCt, fun k hk => by rw [up_k (by omega)]; exact hF k hk⟩)
          | succ d ih =>
            intro h τ hd hCt hF
            have hh : h < 3 := by omega
            have hlk : 3 * v + h < 3 * g.2.1 := by omega
            obtain ⟨hAt, he⟩ := AI_mk3 hA hv hmk hk3 h (by omega)
            obtain ⟨p0, p1, p6, p7, p8, -, -⟩ := hCt.2.2.1 (3 * v + h) hlk
            have hl3 := (hAt.2.2.1 (3 * v + h) hlk).2.2.1
            have hm := CP_mkm (m := END) (p := -1) (q := nI 0) hCt hAt hlk ⟨fun _ => rfl, fun z => absurd rfl z⟩
            refine r_iload_n hK d_Gs_advance_28 rfl rfl ?_
            refine r_iconst (v := nI 3) hK d_Gs_advance_29 (by decide) ?_
            refine rn_icmp_ge (tgt := 51) hK d_Gs_advance_30 (by decide) (by first | omega | (split <;> omega)) (by first | omega | (split <;> omega)) (fun hno => absurd hno (by omega)) (fun _ => ?_)
            refine r_aload_n hK d_Gs_advance_33 rfl rfl ?_
            refine r_aload_n hK d_Gs_advance_34 rfl rfl ?_
            refine r_iload_n hK d_Gs_advance_35 rfl rfl ?_
            refine r_iload_n hK d_Gs_advance_36 rfl rfl ?_
            refine r_callVR hK d_Gs_advance_37 m_Gs_43 rfl (in_fix rfl) (c_Gs_linkOf hg hh hv hw) (by decide) rfl rfl rfl ?_
            refine r_iconst (v := -1) hK d_Gs_advance_40 (by decide) ?_
            refine r_iconst (v := nI 0) hK d_Gs_advance_41 (by decide) ?_
            refine r_callVV hK d_Gs_advance_42 m_Gs_53 rfl (in_fix rfl) (c_Gs_makeMessage hg hlk p0 p1 p6 hCt.1.2.1 hCt.2.1.1 hAt.1.2.2.2.1 (by omega)) (by decide) rfl rfl rfl ?_
            refine r_iinc hK d_Gs_advance_45 rfl (nI_1 _) rfl ?_
            refine r_goto (tgt := 28) hK d_Gs_advance_48 (by decide) ?_
            exact ih (h + 1) _ (by omega) hm (fun k hk => by rw [mmC_k hk]; exact hF k hk)
        refine r_aload_n hK d_Gs_advance_0 rfl rfl ?_
        refine r_iload_n hK d_Gs_advance_1 rfl rfl ?_
        refine r_callVI hK d_Gs_advance_2 m_Gs_33 rfl (in_fix rfl) (c_Gs_isWorker_t hg hv hw) (by decide) rfl rfl rfl ?_
        refine rn_if_eq (tgt := 24) hK d_Gs_advance_5 (by decide) (by first | omega | (split <;> omega)) (fun hno => absurd hno (by omega)) (fun _ => ?_)
        refine r_aload_n hK d_Gs_advance_8 rfl rfl ?_
        refine r_iload_n hK d_Gs_advance_9 rfl rfl ?_
        refine r_callVI hK d_Gs_advance_10 m_Gs_40 rfl (in_fix rfl) (hheld) (by decide) rfl rfl rfl ?_
        refine rn_if_ne (tgt := 24) hK d_Gs_advance_13 (by decide) (by first | omega | (split <;> omega)) (fun hno => absurd hno (by omega)) (fun _ => ?_)
        refine r_aload_n hK d_Gs_advance_16 rfl rfl ?_
        refine r_iload_n hK d_Gs_advance_17 rfl rfl ?_
        refine r_callVI hK d_Gs_advance_18 m_Gs_57 rfl (in_fix rfl) (hktm) (by decide) rfl rfl rfl ?_
        refine rn_if_eq (tgt := 26) hK d_Gs_advance_21 (by decide) (by first | omega | (split <;> omega)) (fun _ => ?_) (fun hno => absurd hno (by omega))
        refine r_iconst (v := nI 0) hK d_Gs_advance_26 (by decide) ?_
        refine r_istore_n hK d_Gs_advance_27 rfl rfl rfl ?_
        exact hloop 3 0 σ rfl hC (fun _ _ => rfl)
      · have hres : advR g.2.1 sl s (nI v) = (s, nI 0) := if_pos (Or.inr (Or.inr (by rw [nI_clamp (by omega)]; exact hkq)))
        rw [hres]
        rw [if_neg hkq] at hktm
        refine ofK hg w_cd_Gs_advance (by decide) (by decide) (by first | decide | simp) (by simp [Value.category]) ?_
        intro K hK hR
        have hK : Gd l g "GradientShards" b_Gs_advance 3 _ K := hK
        refine r_aload_n hK d_Gs_advance_0 rfl rfl ?_
        refine r_iload_n hK d_Gs_advance_1 rfl rfl ?_
        refine r_callVI hK d_Gs_advance_2 m_Gs_33 rfl (in_fix rfl) (c_Gs_isWorker_t hg hv hw) (by decide) rfl rfl rfl ?_
        refine rn_if_eq (tgt := 24) hK d_Gs_advance_5 (by decide) (by first | omega | (split <;> omega)) (fun hno => absurd hno (by omega)) (fun _ => ?_)
        refine r_aload_n hK d_Gs_advance_8 rfl rfl ?_
        refine r_iload_n hK d_Gs_advance_9 rfl rfl ?_
        refine r_callVI hK d_Gs_advance_10 m_Gs_40 rfl (in_fix rfl) (hheld) (by decide) rfl rfl rfl ?_
        refine rn_if_ne (tgt := 24) hK d_Gs_advance_13 (by decide) (by first | omega | (split <;> omega)) (fun hno => absurd hno (by omega)) (fun _ => ?_)
        refine r_aload_n hK d_Gs_advance_16 rfl rfl ?_
        refine r_iload_n hK d_Gs_advance_17 rfl rfl ?_
        refine r_callVI hK d_Gs_advance_18 m_Gs_57 rfl (in_fix rfl) (hktm) (by decide) rfl rfl rfl ?_
        refine rn_if_eq (tgt := 26) hK d_Gs_advance_21 (by decide) (by first | omega | (split <;> omega)) (fun hno => absurd hno (by omega)) (fun _ => ?_)
        refine r_iconst (v := nI 0) hK d_Gs_advance_24 (by decide) ?_
        exact hR.i d_Gs_advance_25 rfl (⟨rfl, hC, fun _ _ => rfl⟩)
end Gs5
