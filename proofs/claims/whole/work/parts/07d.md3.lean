/-! the reference: packets -/
theorem ua_id {a : Ab} {t i j v : Nat} (h : a t i j = v) : ua a t i j v = a := by
  funext t' i' j'
  unfold ua
  split
  next q => rw [q.1, q.2.1, q.2.2, h]
  next => rfl
section Md3
variable {l : Launch} {g : Gc} {σ : Sg} {sl ru N w : Nat} {s : Sp}
theorem MP_b (hM : MP w sl ru s σ) : ∀ i, i < s.2.length → ∃ b, b ≤ 1 ∧ σ 27 0 i = nI b := fun i hi => ⟨_, by have := Nat.mod_lt (s.2.getD i 0) (show 0 < 2 by decide); omega, (hM.2.2.2.2.2.2.2 i _ (pk_get hi)).1⟩
theorem c_Md_deliver (hg : Gok g) (hM : MP w sl ru s σ) (hA : AI w N s) (i : Int32) : Ct l g y_Md_deliver 1 [.ref (g.1 16 0), .int i] σ (PM w sl ru (dlvR s i) σ) := by
  have hlen := hA.1.2.2.2.1
  have hw := hA.1.2.1
  have hN := hA.1.2.2.1
  have h14 := hM.1.2.2.2.2
  rcases bad_or s.2.length (by omega) i with hb | ⟨j, hj, rfl⟩
  · have hres : dlvR s i = (s, -1) := if_pos hb
    rw [hres]
    refine ofK hg w_cd_Md_deliver (by decide) (by decide) (by first | decide | simp) (by simp [Value.category]) ?_
    intro K hK hR
    have hK : Gd l g "GradientShardsModel" b_Md_deliver 7 _ K := hK
    refine r_iload_n hK d_Md_deliver_0 rfl rfl ?_
    refine r_if_lt (tgt := 12) hK d_Md_deliver_1 (by decide) (fun h1 => ?_) (fun h1 => ?_)
    · refine r_iconst (v := -1) hK d_Md_deliver_12 (by decide) ?_
      exact hR.i d_Md_deliver_13 rfl (⟨rfl, hM, fun _ _ => rfl⟩)
    · refine r_iload_n hK d_Md_deliver_4 rfl rfl ?_
      refine r_aload_n hK d_Md_deliver_5 rfl rfl ?_
      refine r_getI hK d_Md_deliver_6 f_Md_60 rfl (in_fix rfl) rfl rfl h14 ?_
      refine r_icmp_lt (tgt := 14) hK d_Md_deliver_9 (by decide) (fun hno => absurd hno (Int32.not_lt.mpr (hb.resolve_left h1))) (fun _ => ?_)
      refine r_iconst (v := -1) hK d_Md_deliver_12 (by decide) ?_
      exact hR.i d_Md_deliver_13 rfl (⟨rfl, hM, fun _ _ => rfl⟩)
  · have hres : dlvR s (nI j) = (dlv s j, nI (dlvN s j)) := by unfold dlvR; rw [if_neg (ok_nI hj (by omega)), nI_clamp (by omega)]
    rw [hres]
    obtain ⟨c1, c2, c3, c4⟩ := AI_pk hA hj
    obtain ⟨e1, e2, e3⟩ := lkc_lt c1 c2
    obtain ⟨v27, v28, v29⟩ := hM.2.2.2.2.2.2.2 j _ (pk_get hj)
    have hmk := (hA.2.2.1 _ e1).2.2.1
    have hMr := MP_rm hM hj
    have hAr := AI_rm hA j
    have hbb := MP_b hM
    unfold dlv dlvN
    generalize hcc : s.2.getD j 0 = c at *
    have hx : lkc c < 12 := by omega
    have r20 : rmM σ s.2.length j 20 0 (lkc c) = nI (s.1 3 (lkc c) 0) := (hMr.2.2.1 _ e1).2.2
    have l2 := (hA.2.2.1 _ e1).2.1
    by_cases hk : c % 2 = 1
    · rw [if_pos hk, if_pos hk]
      by_cases hcf : s.1 3 (lkc c) 0 < c / 32
      · rw [if_pos hcf, if_pos hcf]
        refine ofK hg w_cd_Md_deliver (by decide) (by decide) (by first | decide | simp) (by simp [Value.category]) ?_
        intro K hK hR
        have hK : Gd l g "GradientShardsModel" b_Md_deliver 7 _ K := hK
        refine r_iload_n hK d_Md_deliver_0 rfl rfl ?_
        refine r_if_lt (tgt := 12) hK d_Md_deliver_1 (by decide) (fun hno => absurd hno (nI_pos (by omega))) (fun _ => ?_)
        refine r_iload_n hK d_Md_deliver_4 rfl rfl ?_
        refine r_aload_n hK d_Md_deliver_5 rfl rfl ?_
        refine r_getI hK d_Md_deliver_6 f_Md_60 rfl (in_fix rfl) rfl rfl h14 ?_
        refine rn_icmp_lt (tgt := 14) hK d_Md_deliver_9 (by decide) (by first | omega | (split <;> omega)) (by first | omega | (split <;> omega)) (fun _ => ?_) (fun hno => absurd hno (by omega))
        refine r_aload_n hK d_Md_deliver_14 rfl rfl ?_
        refine r_getR hK d_Md_deliver_15 f_Md_41 rfl (in_fix rfl) rfl rfl ?_
        refine r_iload_n hK d_Md_deliver_18 rfl rfl ?_
        refine r_zald hK d_Md_deliver_19 rfl rfl (in_fix rfl) (ix_nI (j := j) (by omega)) (by show j < 24; omega) v27 ?_
        refine r_istore_n hK d_Md_deliver_20 rfl rfl rfl ?_
        refine r_aload_n hK d_Md_deliver_21 rfl rfl ?_
        refine r_getR hK d_Md_deliver_22 f_Md_44 rfl (in_fix rfl) rfl rfl ?_
        refine r_iload_n hK d_Md_deliver_25 rfl rfl ?_
        refine r_iald hK d_Md_deliver_26 rfl rfl (in_fix rfl) (ix_nI (j := j) (by omega)) (by show j < 24; omega) v28 ?_
        refine r_istore_n hK d_Md_deliver_27 rfl rfl rfl ?_
        refine r_aload_n hK d_Md_deliver_28 rfl rfl ?_
        refine r_getR hK d_Md_deliver_29 f_Md_47 rfl (in_fix rfl) rfl rfl ?_
        refine r_iload_n hK d_Md_deliver_32 rfl rfl ?_
        refine r_iald hK d_Md_deliver_33 rfl rfl (in_fix rfl) (ix_nI (j := j) (by omega)) (by show j < 24; omega) v29 ?_
        refine r_istore hK d_Md_deliver_34 rfl rfl ?_
        refine r_aload_n hK d_Md_deliver_36 rfl rfl ?_
        refine r_iload_n hK d_Md_deliver_37 rfl rfl ?_
        refine r_callVV hK d_Md_deliver_38 m_Md_116 rfl (in_fix rfl) (c_Md_remove hg h14 hlen hj hbb) (by decide) rfl rfl rfl ?_
        refine r_iload_n hK d_Md_deliver_41 rfl rfl ?_
        refine rn_if_eq (tgt := 96) hK d_Md_deliver_42 (by decide) (by first | omega | (split <;> omega)) (fun hno => absurd hno (by omega)) (fun _ => ?_)
        refine r_iload hK d_Md_deliver_45 rfl ?_
        refine r_aload_n hK d_Md_deliver_47 rfl rfl ?_
        refine r_getR hK d_Md_deliver_48 f_Md_19 rfl (in_fix rfl) rfl rfl ?_
        refine r_iload_n hK d_Md_deliver_51 rfl rfl ?_
        refine r_iald hK d_Md_deliver_52 rfl rfl (in_fix rfl) (ix_nI (j := lkc c) (by omega)) hx r20 ?_
        refine rn_icmp_le (tgt := 60) hK d_Md_deliver_53 (by decide) (by first | omega | (split <;> omega)) (by first | omega | (split <;> omega)) (fun hno => absurd hno (by omega)) (fun _ => ?_)
        refine r_iconst (v := nI 1) hK d_Md_deliver_56 (by decide) ?_
        refine r_goto (tgt := 61) hK d_Md_deliver_57 (by decide) ?_
        refine r_istore hK d_Md_deliver_61 rfl rfl ?_
        refine r_aload_n hK d_Md_deliver_63 rfl rfl ?_
        refine r_getR hK d_Md_deliver_64 f_Md_19 rfl (in_fix rfl) rfl rfl ?_
        refine r_iload_n hK d_Md_deliver_67 rfl rfl ?_
        refine r_iload hK d_Md_deliver_68 rfl ?_
        refine rn_if_eq (tgt := 78) hK d_Md_deliver_70 (by decide) (by first | omega | (split <;> omega)) (fun hno => absurd hno (by omega)) (fun _ => ?_)
        refine r_iload hK d_Md_deliver_73 rfl ?_
        refine r_goto (tgt := 84) hK d_Md_deliver_75 (by decide) ?_
        refine r_iast hK d_Md_deliver_84 rfl rfl (in_fix rfl) (ix_nI (j := lkc c) (by omega)) hx ?_
        refine r_iload hK d_Md_deliver_85 rfl ?_
        refine rn_if_eq (tgt := 94) hK d_Md_deliver_87 (by decide) (by first | omega | (split <;> omega)) (fun hno => absurd hno (by omega)) (fun _ => ?_)
        refine r_iconst (v := nI 4) hK d_Md_deliver_90 (by decide) ?_
        refine r_goto (tgt := 95) hK d_Md_deliver_91 (by decide) ?_
        exact hR.i d_Md_deliver_95 rfl (⟨rfl, MP_3 hMr, fun k hk => by rw [up_k (by omega), rmM_k hk]⟩)
      · rw [if_neg hcf, if_neg hcf]
        refine ofK hg w_cd_Md_deliver (by decide) (by decide) (by first | decide | simp) (by simp [Value.category]) ?_
        intro K hK hR
        have hK : Gd l g "GradientShardsModel" b_Md_deliver 7 _ K := hK
        refine r_iload_n hK d_Md_deliver_0 rfl rfl ?_
        refine r_if_lt (tgt := 12) hK d_Md_deliver_1 (by decide) (fun hno => absurd hno (nI_pos (by omega))) (fun _ => ?_)
        refine r_iload_n hK d_Md_deliver_4 rfl rfl ?_
        refine r_aload_n hK d_Md_deliver_5 rfl rfl ?_
        refine r_getI hK d_Md_deliver_6 f_Md_60 rfl (in_fix rfl) rfl rfl h14 ?_
        refine rn_icmp_lt (tgt := 14) hK d_Md_deliver_9 (by decide) (by first | omega | (split <;> omega)) (by first | omega | (split <;> omega)) (fun _ => ?_) (fun hno => absurd hno (by omega))
        refine r_aload_n hK d_Md_deliver_14 rfl rfl ?_
        refine r_getR hK d_Md_deliver_15 f_Md_41 rfl (in_fix rfl) rfl rfl ?_
        refine r_iload_n hK d_Md_deliver_18 rfl rfl ?_
        refine r_zald hK d_Md_deliver_19 rfl rfl (in_fix rfl) (ix_nI (j := j) (by omega)) (by show j < 24; omega) v27 ?_
        refine r_istore_n hK d_Md_deliver_20 rfl rfl rfl ?_
        refine r_aload_n hK d_Md_deliver_21 rfl rfl ?_
        refine r_getR hK d_Md_deliver_22 f_Md_44 rfl (in_fix rfl) rfl rfl ?_
        refine r_iload_n hK d_Md_deliver_25 rfl rfl ?_
        refine r_iald hK d_Md_deliver_26 rfl rfl (in_fix rfl) (ix_nI (j := j) (by omega)) (by show j < 24; omega) v28 ?_
        refine r_istore_n hK d_Md_deliver_27 rfl rfl rfl ?_
        refine r_aload_n hK d_Md_deliver_28 rfl rfl ?_
        refine r_getR hK d_Md_deliver_29 f_Md_47 rfl (in_fix rfl) rfl rfl ?_
        refine r_iload_n hK d_Md_deliver_32 rfl rfl ?_
        refine r_iald hK d_Md_deliver_33 rfl rfl (in_fix rfl) (ix_nI (j := j) (by omega)) (by show j < 24; omega) v29 ?_
        refine r_istore hK d_Md_deliver_34 rfl rfl ?_
        refine r_aload_n hK d_Md_deliver_36 rfl rfl ?_
        refine r_iload_n hK d_Md_deliver_37 rfl rfl ?_
        refine r_callVV hK d_Md_deliver_38 m_Md_116 rfl (in_fix rfl) (c_Md_remove hg h14 hlen hj hbb) (by decide) rfl rfl rfl ?_
        refine r_iload_n hK d_Md_deliver_41 rfl rfl ?_
        refine rn_if_eq (tgt := 96) hK d_Md_deliver_42 (by decide) (by first | omega | (split <;> omega)) (fun hno => absurd hno (by omega)) (fun _ => ?_)
        refine r_iload hK d_Md_deliver_45 rfl ?_
        refine r_aload_n hK d_Md_deliver_47 rfl rfl ?_
        refine r_getR hK d_Md_deliver_48 f_Md_19 rfl (in_fix rfl) rfl rfl ?_
        refine r_iload_n hK d_Md_deliver_51 rfl rfl ?_
        refine r_iald hK d_Md_deliver_52 rfl rfl (in_fix rfl) (ix_nI (j := lkc c) (by omega)) hx r20 ?_
        refine rn_icmp_le (tgt := 60) hK d_Md_deliver_53 (by decide) (by first | omega | (split <;> omega)) (by first | omega | (split <;> omega)) (fun _ => ?_) (fun hno => absurd hno (by omega))
        refine r_iconst (v := nI 0) hK d_Md_deliver_60 (by decide) ?_
        refine r_istore hK d_Md_deliver_61 rfl rfl ?_
        refine r_aload_n hK d_Md_deliver_63 rfl rfl ?_
        refine r_getR hK d_Md_deliver_64 f_Md_19 rfl (in_fix rfl) rfl rfl ?_
        refine r_iload_n hK d_Md_deliver_67 rfl rfl ?_
        refine r_iload hK d_Md_deliver_68 rfl ?_
        refine rn_if_eq (tgt := 78) hK d_Md_deliver_70 (by decide) (by first | omega | (split <;> omega)) (fun _ => ?_) (fun hno => absurd hno (by omega))
        refine r_aload_n hK d_Md_deliver_78 rfl rfl ?_
        refine r_getR hK d_Md_deliver_79 f_Md_19 rfl (in_fix rfl) rfl rfl ?_
        refine r_iload_n hK d_Md_deliver_82 rfl rfl ?_
        refine r_iald hK d_Md_deliver_83 rfl rfl (in_fix rfl) (ix_nI (j := lkc c) (by omega)) hx rfl ?_
        refine r_iast hK d_Md_deliver_84 rfl rfl (in_fix rfl) (ix_nI (j := lkc c) (by omega)) hx ?_
        rw [up_self]
        refine r_iload hK d_Md_deliver_85 rfl ?_
        refine rn_if_eq (tgt := 94) hK d_Md_deliver_87 (by decide) (by first | omega | (split <;> omega)) (fun _ => ?_) (fun hno => absurd hno (by omega))
        refine r_iconst (v := nI 5) hK d_Md_deliver_94 (by decide) ?_
        exact hR.i d_Md_deliver_95 rfl (⟨rfl, hMr, fun k hk => rmM_k hk⟩)
    · rw [if_neg hk, if_neg hk]
      have r24 : rmM σ s.2.length j 24 0 (c / 8 % 4) = nI (s.1 7 (c / 8 % 4) 0) := (hMr.2.2.2.2.2.1 _ c2).1
      have hd1 := (hA.2.2.2.1 _ c2).1
      by_cases h7 : s.1 7 (c / 8 % 4) 0 = 1
      · rw [if_pos h7, if_pos h7]
        refine ofK hg w_cd_Md_deliver (by decide) (by decide) (by first | decide | simp) (by simp [Value.category]) ?_
        intro K hK hR
        have hK : Gd l g "GradientShardsModel" b_Md_deliver 7 _ K := hK
        refine r_iload_n hK d_Md_deliver_0 rfl rfl ?_
        refine r_if_lt (tgt := 12) hK d_Md_deliver_1 (by decide) (fun hno => absurd hno (nI_pos (by omega))) (fun _ => ?_)
        refine r_iload_n hK d_Md_deliver_4 rfl rfl ?_
        refine r_aload_n hK d_Md_deliver_5 rfl rfl ?_
        refine r_getI hK d_Md_deliver_6 f_Md_60 rfl (in_fix rfl) rfl rfl h14 ?_
        refine rn_icmp_lt (tgt := 14) hK d_Md_deliver_9 (by decide) (by first | omega | (split <;> omega)) (by first | omega | (split <;> omega)) (fun _ => ?_) (fun hno => absurd hno (by omega))
        refine r_aload_n hK d_Md_deliver_14 rfl rfl ?_
        refine r_getR hK d_Md_deliver_15 f_Md_41 rfl (in_fix rfl) rfl rfl ?_
        refine r_iload_n hK d_Md_deliver_18 rfl rfl ?_
        refine r_zald hK d_Md_deliver_19 rfl rfl (in_fix rfl) (ix_nI (j := j) (by omega)) (by show j < 24; omega) v27 ?_
        refine r_istore_n hK d_Md_deliver_20 rfl rfl rfl ?_
        refine r_aload_n hK d_Md_deliver_21 rfl rfl ?_
        refine r_getR hK d_Md_deliver_22 f_Md_44 rfl (in_fix rfl) rfl rfl ?_
        refine r_iload_n hK d_Md_deliver_25 rfl rfl ?_
        refine r_iald hK d_Md_deliver_26 rfl rfl (in_fix rfl) (ix_nI (j := j) (by omega)) (by show j < 24; omega) v28 ?_
        refine r_istore_n hK d_Md_deliver_27 rfl rfl rfl ?_
        refine r_aload_n hK d_Md_deliver_28 rfl rfl ?_
        refine r_getR hK d_Md_deliver_29 f_Md_47 rfl (in_fix rfl) rfl rfl ?_
        refine r_iload_n hK d_Md_deliver_32 rfl rfl ?_
        refine r_iald hK d_Md_deliver_33 rfl rfl (in_fix rfl) (ix_nI (j := j) (by omega)) (by show j < 24; omega) v29 ?_
        refine r_istore hK d_Md_deliver_34 rfl rfl ?_
        refine r_aload_n hK d_Md_deliver_36 rfl rfl ?_
        refine r_iload_n hK d_Md_deliver_37 rfl rfl ?_
        refine r_callVV hK d_Md_deliver_38 m_Md_116 rfl (in_fix rfl) (c_Md_remove hg h14 hlen hj hbb) (by decide) rfl rfl rfl ?_
        refine r_iload_n hK d_Md_deliver_41 rfl rfl ?_
        refine rn_if_eq (tgt := 96) hK d_Md_deliver_42 (by decide) (by first | omega | (split <;> omega)) (fun _ => ?_) (fun hno => absurd hno (by omega))
        refine r_aload_n hK d_Md_deliver_96 rfl rfl ?_
        refine r_getR hK d_Md_deliver_97 f_Md_32 rfl (in_fix rfl) rfl rfl ?_
        refine r_iload_n hK d_Md_deliver_100 rfl rfl ?_
        refine r_iconst (v := nI 3) hK d_Md_deliver_101 (by decide) ?_
        refine r_irem hK d_Md_deliver_102 (v := nI (c / 8 % 4)) (by decide) (by rw [pk_rem (by omega) (by decide) (by decide), e2]) ?_
        refine r_zald hK d_Md_deliver_103 rfl rfl (in_fix rfl) (ix_nI (j := c / 8 % 4) (by omega)) c2 r24 ?_
        refine rn_if_eq (tgt := 109) hK d_Md_deliver_104 (by decide) (by first | omega | (split <;> omega)) (fun hno => absurd hno (by omega)) (fun _ => ?_)
        refine r_iconst (v := nI 3) hK d_Md_deliver_107 (by decide) ?_
        exact hR.i d_Md_deliver_108 rfl (⟨rfl, hMr, fun k hk => rmM_k hk⟩)
      · rw [if_neg h7, if_neg h7]
        have c4' := c4 (by omega)
        have r22 := (hMr.2.2.2.1 (lkc c) (c / 32) e1 (by omega)).2
        have r22b : rmM σ s.2.length j 22 0 (512 * lkc c + c / 32) = nI (s.1 5 (lkc c) (c / 32)) := r22
        have r263 := hMr.2.2.2.2.2.2.1 3 (by decide)
        have r263b : rmM σ s.2.length j 26 0 3 = nI (s.1 9 3 0) := r263
        have l7 := (hA.2.2.1 _ e1).2.2.2.2.2.2.1 (c / 32)
        by_cases ht : s.1 5 (lkc c) (c / 32) = 1
        · rw [if_pos ht, if_pos ht]
          have hM2 := MP_9 (i := 3) (v := s.1 9 3 0 + 1) hMr
          have hA2 : AI w N (ua s.1 9 3 0 (s.1 9 3 0 + 1), s.2.eraseIdx j) := AI_ct hAr 3 _
          have htn := c_Md_turn (l := l) hg hM2 hA2 e1
          have htr : trn (ua s.1 9 3 0 (s.1 9 3 0 + 1)) (lkc c) = trn s.1 (lkc c) := trn_to (by rw [ua_t (by decide)]) (by rw [ua_t (by decide)])
          have hM3 := MP_snd (c := cod 1 (lkc c) (trn s.1 (lkc c))) hM2
          obtain ⟨d1, d2, d3, d4, d5⟩ := cod_k (k := 1) (l := lkc c) (n := trn s.1 (lkc c)) (by decide) hx
          rw [d1, d4, d5] at hM3
          have htn : CI l g y_Md_turn 0 [.ref (g.1 16 0), .int (nI (lkc c))] (up (rmM σ s.2.length j) 26 0 3 (nI (s.1 9 3 0 + 1))) (nI (trn s.1 (lkc c))) (up (rmM σ s.2.length j) 26 0 3 (nI (s.1 9 3 0 + 1))) := by rw [← htr]; exact htn
          rw [ht] at r22b
          refine ofK hg w_cd_Md_deliver (by decide) (by decide) (by first | decide | simp) (by simp [Value.category]) ?_
          intro K hK hR
          have hK : Gd l g "GradientShardsModel" b_Md_deliver 7 _ K := hK
          refine r_iload_n hK d_Md_deliver_0 rfl rfl ?_
          refine r_if_lt (tgt := 12) hK d_Md_deliver_1 (by decide) (fun hno => absurd hno (nI_pos (by omega))) (fun _ => ?_)
          refine r_iload_n hK d_Md_deliver_4 rfl rfl ?_
          refine r_aload_n hK d_Md_deliver_5 rfl rfl ?_
          refine r_getI hK d_Md_deliver_6 f_Md_60 rfl (in_fix rfl) rfl rfl h14 ?_
          refine rn_icmp_lt (tgt := 14) hK d_Md_deliver_9 (by decide) (by first | omega | (split <;> omega)) (by first | omega | (split <;> omega)) (fun _ => ?_) (fun hno => absurd hno (by omega))
          refine r_aload_n hK d_Md_deliver_14 rfl rfl ?_
          refine r_getR hK d_Md_deliver_15 f_Md_41 rfl (in_fix rfl) rfl rfl ?_
          refine r_iload_n hK d_Md_deliver_18 rfl rfl ?_
          refine r_zald hK d_Md_deliver_19 rfl rfl (in_fix rfl) (ix_nI (j := j) (by omega)) (by show j < 24; omega) v27 ?_
          refine r_istore_n hK d_Md_deliver_20 rfl rfl rfl ?_
          refine r_aload_n hK d_Md_deliver_21 rfl rfl ?_
          refine r_getR hK d_Md_deliver_22 f_Md_44 rfl (in_fix rfl) rfl rfl ?_
          refine r_iload_n hK d_Md_deliver_25 rfl rfl ?_
          refine r_iald hK d_Md_deliver_26 rfl rfl (in_fix rfl) (ix_nI (j := j) (by omega)) (by show j < 24; omega) v28 ?_
          refine r_istore_n hK d_Md_deliver_27 rfl rfl rfl ?_
          refine r_aload_n hK d_Md_deliver_28 rfl rfl ?_
          refine r_getR hK d_Md_deliver_29 f_Md_47 rfl (in_fix rfl) rfl rfl ?_
          refine r_iload_n hK d_Md_deliver_32 rfl rfl ?_
          refine r_iald hK d_Md_deliver_33 rfl rfl (in_fix rfl) (ix_nI (j := j) (by omega)) (by show j < 24; omega) v29 ?_
          refine r_istore hK d_Md_deliver_34 rfl rfl ?_
          refine r_aload_n hK d_Md_deliver_36 rfl rfl ?_
          refine r_iload_n hK d_Md_deliver_37 rfl rfl ?_
          refine r_callVV hK d_Md_deliver_38 m_Md_116 rfl (in_fix rfl) (c_Md_remove hg h14 hlen hj hbb) (by decide) rfl rfl rfl ?_
          refine r_iload_n hK d_Md_deliver_41 rfl rfl ?_
          refine rn_if_eq (tgt := 96) hK d_Md_deliver_42 (by decide) (by first | omega | (split <;> omega)) (fun _ => ?_) (fun hno => absurd hno (by omega))
          refine r_aload_n hK d_Md_deliver_96 rfl rfl ?_
          refine r_getR hK d_Md_deliver_97 f_Md_32 rfl (in_fix rfl) rfl rfl ?_
          refine r_iload_n hK d_Md_deliver_100 rfl rfl ?_
          refine r_iconst (v := nI 3) hK d_Md_deliver_101 (by decide) ?_
          refine r_irem hK d_Md_deliver_102 (v := nI (c / 8 % 4)) (by decide) (by rw [pk_rem (by omega) (by decide) (by decide), e2]) ?_
          refine r_zald hK d_Md_deliver_103 rfl rfl (in_fix rfl) (ix_nI (j := c / 8 % 4) (by omega)) c2 r24 ?_
          refine rn_if_eq (tgt := 109) hK d_Md_deliver_104 (by decide) (by first | omega | (split <;> omega)) (fun _ => ?_) (fun hno => absurd hno (by omega))
          refine r_aload_n hK d_Md_deliver_109 rfl rfl ?_
          refine r_getR hK d_Md_deliver_110 f_Md_25 rfl (in_fix rfl) rfl rfl ?_
          refine r_sipush (v := nI 512) hK d_Md_deliver_113 (by decide) ?_
          refine r_iload_n hK d_Md_deliver_116 rfl rfl ?_
          refine r_imul hK d_Md_deliver_117 (pk_mul _ _) ?_
          refine r_iload hK d_Md_deliver_118 rfl ?_
          refine r_iadd hK d_Md_deliver_120 (nI_add _ _) ?_
          refine r_zald hK d_Md_deliver_121 rfl rfl (in_fix rfl) (ix_nI (j := 512 * lkc c + c / 32) (by omega)) (by show 512 * lkc c + c / 32 < 6144; omega) r22b ?_
          refine r_istore hK d_Md_deliver_122 rfl rfl ?_
          refine r_aload_n hK d_Md_deliver_124 rfl rfl ?_
          refine r_getR hK d_Md_deliver_125 f_Md_25 rfl (in_fix rfl) rfl rfl ?_
          refine r_sipush (v := nI 512) hK d_Md_deliver_128 (by decide) ?_
          refine r_iload_n hK d_Md_deliver_131 rfl rfl ?_
          refine r_imul hK d_Md_deliver_132 (pk_mul _ _) ?_
          refine r_iload hK d_Md_deliver_133 rfl ?_
          refine r_iadd hK d_Md_deliver_135 (nI_add _ _) ?_
          refine r_iconst (v := nI 1) hK d_Md_deliver_136 (by decide) ?_
          refine r_zast hK d_Md_deliver_137 rfl rfl (in_fix rfl) (ix_nI (j := 512 * lkc c + c / 32) (by omega)) (by show 512 * lkc c + c / 32 < 6144; omega) rfl ?_
          rw [up_id r22b]
          refine r_aload_n hK d_Md_deliver_138 rfl rfl ?_
          refine r_getR hK d_Md_deliver_139 f_Md_38 rfl (in_fix rfl) rfl rfl ?_
          refine r_iconst (v := nI 3) hK d_Md_deliver_142 (by decide) ?_
          refine r_iload hK d_Md_deliver_143 rfl ?_
          refine rn_if_eq (tgt := 159) hK d_Md_deliver_145 (by decide) (by first | omega | (split <;> omega)) (fun hno => absurd hno (by omega)) (fun _ => ?_)
          refine r_aload_n hK d_Md_deliver_148 rfl rfl ?_
          refine r_getR hK d_Md_deliver_149 f_Md_38 rfl (in_fix rfl) rfl rfl ?_
          refine r_iconst (v := nI 3) hK d_Md_deliver_152 (by decide) ?_
          refine r_iald hK d_Md_deliver_153 rfl rfl (in_fix rfl) (ix_nI (j := 3) (by decide)) (by show 3 < 6; decide) r263b ?_
          refine r_iconst (v := nI 1) hK d_Md_deliver_154 (by decide) ?_
          refine r_iadd hK d_Md_deliver_155 (nI_add _ _) ?_
          refine r_goto (tgt := 165) hK d_Md_deliver_156 (by decide) ?_
          refine r_iast hK d_Md_deliver_165 rfl rfl (in_fix rfl) (ix_nI (j := 3) (by decide)) (by show 3 < 6; decide) ?_
          refine r_aload_n hK d_Md_deliver_166 rfl rfl ?_
          refine r_iload_n hK d_Md_deliver_167 rfl rfl ?_
          refine r_callVI hK d_Md_deliver_168 m_Md_82 rfl (in_fix rfl) (htn) (by decide) rfl rfl rfl ?_
          refine r_istore hK d_Md_deliver_171 rfl rfl ?_
          refine r_aload_n hK d_Md_deliver_173 rfl rfl ?_
          refine r_iconst (v := nI 1) hK d_Md_deliver_174 (by decide) ?_
          refine r_iload_n hK d_Md_deliver_175 rfl rfl ?_
          refine r_iload hK d_Md_deliver_176 rfl ?_
          refine r_callVV hK d_Md_deliver_178 m_Md_66 rfl (in_fix rfl) (c_Md_send hg (n := (s.2.eraseIdx j).length) (b := 1) hM2.1.2.2.2.2 hA2.1.2.2.2.1 (by decide)) (by decide) rfl rfl rfl ?_
          refine r_iload hK d_Md_deliver_181 rfl ?_
          refine rn_if_eq (tgt := 190) hK d_Md_deliver_183 (by decide) (by first | omega | (split <;> omega)) (fun hno => absurd hno (by omega)) (fun _ => ?_)
          refine r_iconst (v := nI 2) hK d_Md_deliver_186 (by decide) ?_
          refine r_goto (tgt := 191) hK d_Md_deliver_187 (by decide) ?_
          exact hR.i d_Md_deliver_191 rfl (⟨rfl, hM3, fun k hk => by rw [sdM_k hk, up_k (by omega), rmM_k hk]⟩)
        · rw [if_neg ht, if_neg ht]
          have hM2 := MP_5 (i := lkc c) (j := c / 32) (v := 1) hMr (by omega)
          have hA2 : AI w N (ua s.1 5 (lkc c) (c / 32) 1, s.2.eraseIdx j) := AI_tk hAr e1 c4' (by rw [e2]; show s.1 7 (c / 8 % 4) 0 = 0; omega)
          have htn : CI l g y_Md_turn 0 [.ref (g.1 16 0), .int (nI (lkc c))] (up (rmM σ s.2.length j) 22 0 (512 * lkc c + c / 32) (nI 1)) (nI (trn (ua s.1 5 (lkc c) (c / 32) 1) (lkc c))) (up (rmM σ s.2.length j) 22 0 (512 * lkc c + c / 32) (nI 1)) := c_Md_turn (l := l) hg hM2 hA2 e1
          have hM3 := MP_snd (c := cod 1 (lkc c) (trn (ua s.1 5 (lkc c) (c / 32) 1) (lkc c))) hM2
          obtain ⟨d1, d2, d3, d4, d5⟩ := cod_k (k := 1) (l := lkc c) (n := trn (ua s.1 5 (lkc c) (c / 32) 1) (lkc c)) (by decide) hx
          rw [d1, d4, d5] at hM3
          rw [show s.1 5 (lkc c) (c / 32) = 0 by omega] at r22b
          refine ofK hg w_cd_Md_deliver (by decide) (by decide) (by first | decide | simp) (by simp [Value.category]) ?_
          intro K hK hR
          have hK : Gd l g "GradientShardsModel" b_Md_deliver 7 _ K := hK
          refine r_iload_n hK d_Md_deliver_0 rfl rfl ?_
          refine r_if_lt (tgt := 12) hK d_Md_deliver_1 (by decide) (fun hno => absurd hno (nI_pos (by omega))) (fun _ => ?_)
          refine r_iload_n hK d_Md_deliver_4 rfl rfl ?_
          refine r_aload_n hK d_Md_deliver_5 rfl rfl ?_
          refine r_getI hK d_Md_deliver_6 f_Md_60 rfl (in_fix rfl) rfl rfl h14 ?_
          refine rn_icmp_lt (tgt := 14) hK d_Md_deliver_9 (by decide) (by first | omega | (split <;> omega)) (by first | omega | (split <;> omega)) (fun _ => ?_) (fun hno => absurd hno (by omega))
          refine r_aload_n hK d_Md_deliver_14 rfl rfl ?_
          refine r_getR hK d_Md_deliver_15 f_Md_41 rfl (in_fix rfl) rfl rfl ?_
          refine r_iload_n hK d_Md_deliver_18 rfl rfl ?_
          refine r_zald hK d_Md_deliver_19 rfl rfl (in_fix rfl) (ix_nI (j := j) (by omega)) (by show j < 24; omega) v27 ?_
          refine r_istore_n hK d_Md_deliver_20 rfl rfl rfl ?_
          refine r_aload_n hK d_Md_deliver_21 rfl rfl ?_
          refine r_getR hK d_Md_deliver_22 f_Md_44 rfl (in_fix rfl) rfl rfl ?_
          refine r_iload_n hK d_Md_deliver_25 rfl rfl ?_
          refine r_iald hK d_Md_deliver_26 rfl rfl (in_fix rfl) (ix_nI (j := j) (by omega)) (by show j < 24; omega) v28 ?_
          refine r_istore_n hK d_Md_deliver_27 rfl rfl rfl ?_
          refine r_aload_n hK d_Md_deliver_28 rfl rfl ?_
          refine r_getR hK d_Md_deliver_29 f_Md_47 rfl (in_fix rfl) rfl rfl ?_
          refine r_iload_n hK d_Md_deliver_32 rfl rfl ?_
          refine r_iald hK d_Md_deliver_33 rfl rfl (in_fix rfl) (ix_nI (j := j) (by omega)) (by show j < 24; omega) v29 ?_
          refine r_istore hK d_Md_deliver_34 rfl rfl ?_
          refine r_aload_n hK d_Md_deliver_36 rfl rfl ?_
          refine r_iload_n hK d_Md_deliver_37 rfl rfl ?_
          refine r_callVV hK d_Md_deliver_38 m_Md_116 rfl (in_fix rfl) (c_Md_remove hg h14 hlen hj hbb) (by decide) rfl rfl rfl ?_
          refine r_iload_n hK d_Md_deliver_41 rfl rfl ?_
          refine rn_if_eq (tgt := 96) hK d_Md_deliver_42 (by decide) (by first | omega | (split <;> omega)) (fun _ => ?_) (fun hno => absurd hno (by omega))
          refine r_aload_n hK d_Md_deliver_96 rfl rfl ?_
          refine r_getR hK d_Md_deliver_97 f_Md_32 rfl (in_fix rfl) rfl rfl ?_
          refine r_iload_n hK d_Md_deliver_100 rfl rfl ?_
          refine r_iconst (v := nI 3) hK d_Md_deliver_101 (by decide) ?_
          refine r_irem hK d_Md_deliver_102 (v := nI (c / 8 % 4)) (by decide) (by rw [pk_rem (by omega) (by decide) (by decide), e2]) ?_
          refine r_zald hK d_Md_deliver_103 rfl rfl (in_fix rfl) (ix_nI (j := c / 8 % 4) (by omega)) c2 r24 ?_
          refine rn_if_eq (tgt := 109) hK d_Md_deliver_104 (by decide) (by first | omega | (split <;> omega)) (fun _ => ?_) (fun hno => absurd hno (by omega))
          refine r_aload_n hK d_Md_deliver_109 rfl rfl ?_
          refine r_getR hK d_Md_deliver_110 f_Md_25 rfl (in_fix rfl) rfl rfl ?_
          refine r_sipush (v := nI 512) hK d_Md_deliver_113 (by decide) ?_
          refine r_iload_n hK d_Md_deliver_116 rfl rfl ?_
          refine r_imul hK d_Md_deliver_117 (pk_mul _ _) ?_
          refine r_iload hK d_Md_deliver_118 rfl ?_
          refine r_iadd hK d_Md_deliver_120 (nI_add _ _) ?_
          refine r_zald hK d_Md_deliver_121 rfl rfl (in_fix rfl) (ix_nI (j := 512 * lkc c + c / 32) (by omega)) (by show 512 * lkc c + c / 32 < 6144; omega) r22b ?_
          refine r_istore hK d_Md_deliver_122 rfl rfl ?_
          refine r_aload_n hK d_Md_deliver_124 rfl rfl ?_
          refine r_getR hK d_Md_deliver_125 f_Md_25 rfl (in_fix rfl) rfl rfl ?_
          refine r_sipush (v := nI 512) hK d_Md_deliver_128 (by decide) ?_
          refine r_iload_n hK d_Md_deliver_131 rfl rfl ?_
          refine r_imul hK d_Md_deliver_132 (pk_mul _ _) ?_
          refine r_iload hK d_Md_deliver_133 rfl ?_
          refine r_iadd hK d_Md_deliver_135 (nI_add _ _) ?_
          refine r_iconst (v := nI 1) hK d_Md_deliver_136 (by decide) ?_
          refine r_zast hK d_Md_deliver_137 rfl rfl (in_fix rfl) (ix_nI (j := 512 * lkc c + c / 32) (by omega)) (by show 512 * lkc c + c / 32 < 6144; omega) rfl ?_
          refine r_aload_n hK d_Md_deliver_138 rfl rfl ?_
          refine r_getR hK d_Md_deliver_139 f_Md_38 rfl (in_fix rfl) rfl rfl ?_
          refine r_iconst (v := nI 3) hK d_Md_deliver_142 (by decide) ?_
          refine r_iload hK d_Md_deliver_143 rfl ?_
          refine rn_if_eq (tgt := 159) hK d_Md_deliver_145 (by decide) (by first | omega | (split <;> omega)) (fun _ => ?_) (fun hno => absurd hno (by omega))
          refine r_aload_n hK d_Md_deliver_159 rfl rfl ?_
          refine r_getR hK d_Md_deliver_160 f_Md_38 rfl (in_fix rfl) rfl rfl ?_
          refine r_iconst (v := nI 3) hK d_Md_deliver_163 (by decide) ?_
          refine r_iald hK d_Md_deliver_164 rfl rfl (in_fix rfl) (ix_nI (j := 3) (by decide)) (by show 3 < 6; decide) rfl ?_
          refine r_iast hK d_Md_deliver_165 rfl rfl (in_fix rfl) (ix_nI (j := 3) (by decide)) (by show 3 < 6; decide) ?_
          rw [up_self]
          refine r_aload_n hK d_Md_deliver_166 rfl rfl ?_
          refine r_iload_n hK d_Md_deliver_167 rfl rfl ?_
          refine r_callVI hK d_Md_deliver_168 m_Md_82 rfl (in_fix rfl) (htn) (by decide) rfl rfl rfl ?_
          refine r_istore hK d_Md_deliver_171 rfl rfl ?_
          refine r_aload_n hK d_Md_deliver_173 rfl rfl ?_
          refine r_iconst (v := nI 1) hK d_Md_deliver_174 (by decide) ?_
          refine r_iload_n hK d_Md_deliver_175 rfl rfl ?_
          refine r_iload hK d_Md_deliver_176 rfl ?_
          refine r_callVV hK d_Md_deliver_178 m_Md_66 rfl (in_fix rfl) (c_Md_send hg (n := (s.2.eraseIdx j).length) (b := 1) hM2.1.2.2.2.2 hA2.1.2.2.2.1 (by decide)) (by decide) rfl rfl rfl ?_
          refine r_iload hK d_Md_deliver_181 rfl ?_
          refine rn_if_eq (tgt := 190) hK d_Md_deliver_183 (by decide) (by first | omega | (split <;> omega)) (fun _ => ?_) (fun hno => absurd hno (by omega))
          refine r_iconst (v := nI 1) hK d_Md_deliver_190 (by decide) ?_
          exact hR.i d_Md_deliver_191 rfl (⟨rfl, hM3, fun k hk => by rw [sdM_k hk, up_k (by omega), rmM_k hk]⟩)
theorem c_Md_drop (hg : Gok g) (hM : MP w sl ru s σ) (hA : AI w N s) (i : Int32) : Ct l g y_Md_drop 1 [.ref (g.1 16 0), .int i] σ (PM w sl ru (drpR s i) σ) := by
  have hlen := hA.1.2.2.2.1
  have h14 := hM.1.2.2.2.2
  rcases bad_or s.2.length (by omega) i with hb | ⟨j, hj, rfl⟩
  · have hres : drpR s i = (s, nI 0) := if_pos hb
    rw [hres]
    refine ofK hg w_cd_Md_drop (by decide) (by decide) (by first | decide | simp) (by simp [Value.category]) ?_
    intro K hK hR
    have hK : Gd l g "GradientShardsModel" b_Md_drop 2 _ K := hK
    refine r_iload_n hK d_Md_drop_0 rfl rfl ?_
    refine r_if_lt (tgt := 12) hK d_Md_drop_1 (by decide) (fun h1 => ?_) (fun h1 => ?_)
    · refine r_iconst (v := nI 0) hK d_Md_drop_12 (by decide) ?_
      exact hR.i d_Md_drop_13 rfl (⟨rfl, hM, fun _ _ => rfl⟩)
    · refine r_iload_n hK d_Md_drop_4 rfl rfl ?_
      refine r_aload_n hK d_Md_drop_5 rfl rfl ?_
      refine r_getI hK d_Md_drop_6 f_Md_60 rfl (in_fix rfl) rfl rfl h14 ?_
      refine r_icmp_lt (tgt := 14) hK d_Md_drop_9 (by decide) (fun hno => absurd hno (Int32.not_lt.mpr (hb.resolve_left h1))) (fun _ => ?_)
      refine r_iconst (v := nI 0) hK d_Md_drop_12 (by decide) ?_
      exact hR.i d_Md_drop_13 rfl (⟨rfl, hM, fun _ _ => rfl⟩)
  · have hres : drpR s (nI j) = ((s.1, s.2.eraseIdx j), nI 1) := by unfold drpR; rw [if_neg (ok_nI hj (by omega)), nI_clamp (by omega)]
    rw [hres]
    refine ofK hg w_cd_Md_drop (by decide) (by decide) (by first | decide | simp) (by simp [Value.category]) ?_
    intro K hK hR
    have hK : Gd l g "GradientShardsModel" b_Md_drop 2 _ K := hK
    refine r_iload_n hK d_Md_drop_0 rfl rfl ?_
    refine r_if_lt (tgt := 12) hK d_Md_drop_1 (by decide) (fun hno => absurd hno (nI_pos (by omega))) (fun _ => ?_)
    refine r_iload_n hK d_Md_drop_4 rfl rfl ?_
    refine r_aload_n hK d_Md_drop_5 rfl rfl ?_
    refine r_getI hK d_Md_drop_6 f_Md_60 rfl (in_fix rfl) rfl rfl h14 ?_
    refine rn_icmp_lt (tgt := 14) hK d_Md_drop_9 (by decide) (by first | omega | (split <;> omega)) (by first | omega | (split <;> omega)) (fun _ => ?_) (fun hno => absurd hno (by omega))
    refine r_aload_n hK d_Md_drop_14 rfl rfl ?_
    refine r_iload_n hK d_Md_drop_15 rfl rfl ?_
    refine r_callVV hK d_Md_drop_16 m_Md_116 rfl (in_fix rfl) (c_Md_remove hg h14 hlen hj (MP_b hM)) (by decide) rfl rfl rfl ?_
    refine r_iconst (v := nI 1) hK d_Md_drop_19 (by decide) ?_
    exact hR.i d_Md_drop_20 rfl (⟨rfl, MP_rm hM hj, fun k hk => rmM_k hk⟩)
theorem c_Md_copy (hg : Gok g) (hM : MP w sl ru s σ) (hA : AI w N s) (i : Int32) : Ct l g y_Md_copy 1 [.ref (g.1 16 0), .int i] σ (PM w sl ru (cpyR s i) σ) := by
  have hlen := hA.1.2.2.2.1
  have h14 := hM.1.2.2.2.2
  rcases bad_or s.2.length (by omega) i with hb | ⟨j, hj, rfl⟩
  · have hres : cpyR s i = (s, nI 0) := if_pos (Or.inl hb)
    rw [hres]
    refine ofK hg w_cd_Md_copy (by decide) (by decide) (by first | decide | simp) (by simp [Value.category]) ?_
    intro K hK hR
    have hK : Gd l g "GradientShardsModel" b_Md_copy 2 _ K := hK
    refine r_iload_n hK d_Md_copy_0 rfl rfl ?_
    refine r_if_lt (tgt := 21) hK d_Md_copy_1 (by decide) (fun h1 => ?_) (fun h1 => ?_)
    · refine r_iconst (v := nI 0) hK d_Md_copy_21 (by decide) ?_
      exact hR.i d_Md_copy_22 rfl (⟨rfl, hM, fun _ _ => rfl⟩)
    · refine r_iload_n hK d_Md_copy_4 rfl rfl ?_
      refine r_aload_n hK d_Md_copy_5 rfl rfl ?_
      refine r_getI hK d_Md_copy_6 f_Md_60 rfl (in_fix rfl) rfl rfl h14 ?_
      refine r_icmp_ge (tgt := 21) hK d_Md_copy_9 (by decide) (fun _ => ?_) (fun hno => absurd (hb.resolve_left h1) hno)
      refine r_iconst (v := nI 0) hK d_Md_copy_21 (by decide) ?_
      exact hR.i d_Md_copy_22 rfl (⟨rfl, hM, fun _ _ => rfl⟩)
  · obtain ⟨v27, v28, v29⟩ := hM.2.2.2.2.2.2.2 j _ (pk_get hj)
    have hb1 : s.2.getD j 0 % 2 ≤ 1 := by have := Nat.mod_lt (s.2.getD j 0) (show 0 < 2 by decide); omega
    by_cases h24 : s.2.length < 24
    · have hres : cpyR s (nI j) = (snd s (s.2.getD j 0), nI 1) := by unfold cpyR; rw [if_neg (fun q => q.elim (ok_nI hj (by omega)) (by omega)), nI_clamp (by omega)]
      rw [hres]
      refine ofK hg w_cd_Md_copy (by decide) (by decide) (by first | decide | simp) (by simp [Value.category]) ?_
      intro K hK hR
      have hK : Gd l g "GradientShardsModel" b_Md_copy 2 _ K := hK
      refine r_iload_n hK d_Md_copy_0 rfl rfl ?_
      refine r_if_lt (tgt := 21) hK d_Md_copy_1 (by decide) (fun hno => absurd hno (nI_pos (by omega))) (fun _ => ?_)
      refine r_iload_n hK d_Md_copy_4 rfl rfl ?_
      refine r_aload_n hK d_Md_copy_5 rfl rfl ?_
      refine r_getI hK d_Md_copy_6 f_Md_60 rfl (in_fix rfl) rfl rfl h14 ?_
      refine rn_icmp_ge (tgt := 21) hK d_Md_copy_9 (by decide) (by first | omega | (split <;> omega)) (by first | omega | (split <;> omega)) (fun hno => absurd hno (by omega)) (fun _ => ?_)
      refine r_aload_n hK d_Md_copy_12 rfl rfl ?_
      refine r_getI hK d_Md_copy_13 f_Md_60 rfl (in_fix rfl) rfl rfl h14 ?_
      refine r_bipush (v := nI 24) hK d_Md_copy_16 (by decide) ?_
      refine rn_icmp_lt (tgt := 23) hK d_Md_copy_18 (by decide) (by first | omega | (split <;> omega)) (by first | omega | (split <;> omega)) (fun _ => ?_) (fun hno => absurd hno (by omega))
      refine r_aload_n hK d_Md_copy_23 rfl rfl ?_
      refine r_aload_n hK d_Md_copy_24 rfl rfl ?_
      refine r_getR hK d_Md_copy_25 f_Md_41 rfl (in_fix rfl) rfl rfl ?_
      refine r_iload_n hK d_Md_copy_28 rfl rfl ?_
      refine r_zald hK d_Md_copy_29 rfl rfl (in_fix rfl) (ix_nI (j := j) (by omega)) (by show j < 24; omega) v27 ?_
      refine r_aload_n hK d_Md_copy_30 rfl rfl ?_
      refine r_getR hK d_Md_copy_31 f_Md_44 rfl (in_fix rfl) rfl rfl ?_
      refine r_iload_n hK d_Md_copy_34 rfl rfl ?_
      refine r_iald hK d_Md_copy_35 rfl rfl (in_fix rfl) (ix_nI (j := j) (by omega)) (by show j < 24; omega) v28 ?_
      refine r_aload_n hK d_Md_copy_36 rfl rfl ?_
      refine r_getR hK d_Md_copy_37 f_Md_47 rfl (in_fix rfl) rfl rfl ?_
      refine r_iload_n hK d_Md_copy_40 rfl rfl ?_
      refine r_iald hK d_Md_copy_41 rfl rfl (in_fix rfl) (ix_nI (j := j) (by omega)) (by show j < 24; omega) v29 ?_
      refine r_callVV hK d_Md_copy_42 m_Md_66 rfl (in_fix rfl) (c_Md_send hg h14 hlen hb1) (by decide) rfl rfl rfl ?_
      refine r_iconst (v := nI 1) hK d_Md_copy_45 (by decide) ?_
      exact hR.i d_Md_copy_46 rfl (⟨rfl, MP_snd hM, fun k hk => sdM_k hk⟩)
    · have hres : cpyR s (nI j) = (s, nI 0) := if_pos (Or.inr (by omega))
      rw [hres]
      refine ofK hg w_cd_Md_copy (by decide) (by decide) (by first | decide | simp) (by simp [Value.category]) ?_
      intro K hK hR
      have hK : Gd l g "GradientShardsModel" b_Md_copy 2 _ K := hK
      refine r_iload_n hK d_Md_copy_0 rfl rfl ?_
      refine r_if_lt (tgt := 21) hK d_Md_copy_1 (by decide) (fun hno => absurd hno (nI_pos (by omega))) (fun _ => ?_)
      refine r_iload_n hK d_Md_copy_4 rfl rfl ?_
      refine r_aload_n hK d_Md_copy_5 rfl rfl ?_
      refine r_getI hK d_Md_copy_6 f_Md_60 rfl (in_fix rfl) rfl rfl h14 ?_
      refine rn_icmp_ge (tgt := 21) hK d_Md_copy_9 (by decide) (by first | omega | (split <;> omega)) (by first | omega | (split <;> omega)) (fun hno => absurd hno (by omega)) (fun _ => ?_)
      refine r_aload_n hK d_Md_copy_12 rfl rfl ?_
      refine r_getI hK d_Md_copy_13 f_Md_60 rfl (in_fix rfl) rfl rfl h14 ?_
      refine r_bipush (v := nI 24) hK d_Md_copy_16 (by decide) ?_
      refine rn_icmp_lt (tgt := 23) hK d_Md_copy_18 (by decide) (by first | omega | (split <;> omega)) (by first | omega | (split <;> omega)) (fun hno => absurd hno (by omega)) (fun _ => ?_)
      refine r_iconst (v := nI 0) hK d_Md_copy_21 (by decide) ?_
      exact hR.i d_Md_copy_22 rfl (⟨rfl, hM, fun _ _ => rfl⟩)
theorem c_Md_tick (hg : Gok g) (hM : MP w sl ru s σ) (hA : AI w N s) (hT : s.1 12 0 0 + 1 ≤ 20 * N) : Ct l g y_Md_tick 1 [.ref (g.1 16 0)] σ (PM w sl ru (tckR w s) σ) := by
  have hw := hA.1.2.1
  have hN := hA.1.2.2.1
  generalize hs0 : ((ua s.1 12 0 0 (s.1 12 0 0 + 1), s.2) : Sp) = s0
  have hM0 : MP w sl ru s0 (up σ 16 0 3 (nI (s.1 12 0 0 + 1))) := by rw [← hs0]; exact MP_12 hM
  have hA0 : AI w N s0 := by rw [← hs0]; exact AI_tm hA hT
  have hfin : tckR w s = ((ua (tkl s0 (3 * w)).1.1 9 2 0 ((tkl s0 (3 * w)).1.1 9 2 0 + (tkl s0 (3 * w)).2), (tkl s0 (3 * w)).1.2), nI (tkl s0 (3 * w)).2) := by rw [← hs0]; rfl
  rw [hfin]
  refine ofK hg w_cd_Md_tick (by decide) (by decide) (by first | decide | simp) (by simp [Value.category]) ?_
  intro K hK hR
  have hK : Gd l g "GradientShardsModel" b_Md_tick 4 _ K := hK
  have hloop : ∀ d x τ, x + d = 3 * w → MP w sl ru (tkl s0 x).1 τ → (∀ k, k < 16 → τ k = σ k) → K 14 [.ref (g.1 16 0), .int (nI (tkl s0 x).2), .int (nI x)] [] τ := by
    intro d
    induction d with
    | zero =>
      intro x τ hx hMt hF
      obtain rfl : x = 3 * w := by omega
      have r26 := hMt.2.2.2.2.2.2.1 2 (by decide)
      refine r_iload_n hK d_Md_tick_14 rfl rfl ?_
      refine r_iconst (v := nI 3) hK d_Md_tick_15 (by decide) ?_
      refine r_aload_n hK d_Md_tick_16 rfl rfl ?_
      refine r_getI hK d_Md_tick_17 f_Md_50 rfl (in_fix rfl) rfl rfl hMt.1.1 ?_
      refine r_imul hK d_Md_tick_20 (pk_mul _ _) ?_
      refine rn_icmp_ge (tgt := 99) hK d_Md_tick_21 (by decide) (by first | omega | (split <;> omega)) (by first | omega | (split <;> omega)) (fun _ => ?_) (fun hno => absurd hno (by omega))
      refine r_aload_n hK d_Md_tick_99 rfl rfl ?_
      refine r_getR hK d_Md_tick_100 f_Md_38 rfl (in_fix rfl) rfl rfl ?_
      refine r_iconst (v := nI 2) hK d_Md_tick_103 (by decide) ?_
      refine r_aload_n hK d_Md_tick_104 rfl rfl ?_
      refine r_getR hK d_Md_tick_105 f_Md_38 rfl (in_fix rfl) rfl rfl ?_
      refine r_iconst (v := nI 2) hK d_Md_tick_108 (by decide) ?_
      refine r_iald hK d_Md_tick_109 rfl rfl (in_fix rfl) (ix_nI (j := 2) (by decide)) (by show 2 < 6; decide) r26 ?_
      refine r_iload_n hK d_Md_tick_110 rfl rfl ?_
      refine r_iadd hK d_Md_tick_111 (nI_add _ _) ?_
      refine r_iast hK d_Md_tick_112 rfl rfl (in_fix rfl) (ix_nI (j := 2) (by decide)) (by show 2 < 6; decide) ?_
      refine r_iload_n hK d_Md_tick_113 rfl rfl ?_
      exact hR.i d_Md_tick_114 rfl (⟨rfl, MP_9 (i := 2) hMt, fun k hk => by rw [up_k (by omega)]; exact hF k hk⟩)
    | succ d ih =>
      intro x τ hd hMt hF
      have hx : x < 3 * w := by omega
      obtain ⟨hAt, ht12⟩ := AI_tkl hA0 x (by omega)
      obtain ⟨p18, p19, p20⟩ := hMt.2.2.1 x hx
      obtain ⟨l1, l2, l3, l4, l5, -⟩ := hAt.2.2.1 x hx
      have htm := hMt.1.2.2.2.1
      have ht20 := hAt.1.2.2.2.2
      have hlen := hAt.1.2.2.2.1
      have p23 := hMt.2.2.2.2.1 x ((tkl s0 x).1.1 3 x 0 % 32) hx (Nat.mod_lt _ (by decide))
      have l5' := l5 ((tkl s0 x).1.1 3 x 0 % 32) (Nat.mod_lt _ (by decide))
      have hstep : tkl s0 (x + 1) = if due (tkl s0 x).1.1 x then (rsd (tkl s0 x).1 x, (tkl s0 x).2 + 1) else tkl s0 x := rfl
      have hih := fun τ => ih (x + 1) τ (by omega)
      rw [hstep] at hih
      by_cases h1 : (tkl s0 x).1.1 3 x 0 < (tkl s0 x).1.1 1 x 0
      · by_cases h2 : (tkl s0 x).1.1 6 x ((tkl s0 x).1.1 3 x 0 % 32) + 3 ≤ (tkl s0 x).1.1 12 0 0
        · rw [if_pos ⟨h1, h2⟩] at hih
          have hM2 := MP_6 (i := x) (j := (tkl s0 x).1.1 3 x 0 % 32) (v := (tkl s0 x).1.1 12 0 0) hMt (Nat.mod_lt _ (by decide))
          have hM3 := MP_snd (c := cod 0 x ((tkl s0 x).1.1 3 x 0)) hM2
          obtain ⟨d1, d2, d3, d4, d5⟩ := cod_k (k := 0) (l := x) (n := (tkl s0 x).1.1 3 x 0) (by decide) (by omega)
          rw [d1, d4, d5] at hM3
          refine r_iload_n hK d_Md_tick_14 rfl rfl ?_
          refine r_iconst (v := nI 3) hK d_Md_tick_15 (by decide) ?_
          refine r_aload_n hK d_Md_tick_16 rfl rfl ?_
          refine r_getI hK d_Md_tick_17 f_Md_50 rfl (in_fix rfl) rfl rfl hMt.1.1 ?_
          refine r_imul hK d_Md_tick_20 (pk_mul _ _) ?_
          refine rn_icmp_ge (tgt := 99) hK d_Md_tick_21 (by decide) (by first | omega | (split <;> omega)) (by first | omega | (split <;> omega)) (fun hno => absurd hno (by omega)) (fun _ => ?_)
          refine r_aload_n hK d_Md_tick_24 rfl rfl ?_
          refine r_getR hK d_Md_tick_25 f_Md_19 rfl (in_fix rfl) rfl rfl ?_
          refine r_iload_n hK d_Md_tick_28 rfl rfl ?_
          refine r_iald hK d_Md_tick_29 rfl rfl (in_fix rfl) (ix_nI (j := x) (by omega)) (by show x < 12; omega) p20 ?_
          refine r_istore_n hK d_Md_tick_30 rfl rfl rfl ?_
          refine r_iload_n hK d_Md_tick_31 rfl rfl ?_
          refine r_aload_n hK d_Md_tick_32 rfl rfl ?_
          refine r_getR hK d_Md_tick_33 f_Md_13 rfl (in_fix rfl) rfl rfl ?_
          refine r_iload_n hK d_Md_tick_36 rfl rfl ?_
          refine r_iald hK d_Md_tick_37 rfl rfl (in_fix rfl) (ix_nI (j := x) (by omega)) (by show x < 12; omega) p18 ?_
          refine rn_icmp_ge (tgt := 93) hK d_Md_tick_38 (by decide) (by first | omega | (split <;> omega)) (by first | omega | (split <;> omega)) (fun hno => absurd hno (by omega)) (fun _ => ?_)
          refine r_aload_n hK d_Md_tick_41 rfl rfl ?_
          refine r_getI hK d_Md_tick_42 f_Md_63 rfl (in_fix rfl) rfl rfl htm ?_
          refine r_aload_n hK d_Md_tick_45 rfl rfl ?_
          refine r_getR hK d_Md_tick_46 f_Md_29 rfl (in_fix rfl) rfl rfl ?_
          refine r_bipush (v := nI 32) hK d_Md_tick_49 (by decide) ?_
          refine r_iload_n hK d_Md_tick_51 rfl rfl ?_
          refine r_imul hK d_Md_tick_52 (pk_mul _ _) ?_
          refine r_iload_n hK d_Md_tick_53 rfl rfl ?_
          refine r_bipush (v := nI 32) hK d_Md_tick_54 (by decide) ?_
          refine r_irem hK d_Md_tick_56 (by decide) (pk_rem (by omega) (by decide) (by decide)) ?_
          refine r_iadd hK d_Md_tick_57 (nI_add _ _) ?_
          refine r_iald hK d_Md_tick_58 rfl rfl (in_fix rfl) (ix_nI (j := 32 * x + (tkl s0 x).1.1 3 x 0 % 32) (by omega)) (by show 32 * x + (tkl s0 x).1.1 3 x 0 % 32 < 384; omega) p23 ?_
          refine r_isub hK d_Md_tick_59 (pk_sub (by omega)) ?_
          refine r_iconst (v := nI 3) hK d_Md_tick_60 (by decide) ?_
          refine rn_icmp_lt (tgt := 93) hK d_Md_tick_61 (by decide) (by first | omega | (split <;> omega)) (by first | omega | (split <;> omega)) (fun hno => absurd hno (by omega)) (fun _ => ?_)
          refine r_aload_n hK d_Md_tick_64 rfl rfl ?_
          refine r_getR hK d_Md_tick_65 f_Md_29 rfl (in_fix rfl) rfl rfl ?_
          refine r_bipush (v := nI 32) hK d_Md_tick_68 (by decide) ?_
          refine r_iload_n hK d_Md_tick_70 rfl rfl ?_
          refine r_imul hK d_Md_tick_71 (pk_mul _ _) ?_
          refine r_iload_n hK d_Md_tick_72 rfl rfl ?_
          refine r_bipush (v := nI 32) hK d_Md_tick_73 (by decide) ?_
          refine r_irem hK d_Md_tick_75 (by decide) (pk_rem (by omega) (by decide) (by decide)) ?_
          refine r_iadd hK d_Md_tick_76 (nI_add _ _) ?_
          refine r_aload_n hK d_Md_tick_77 rfl rfl ?_
          refine r_getI hK d_Md_tick_78 f_Md_63 rfl (in_fix rfl) rfl rfl htm ?_
          refine r_iast hK d_Md_tick_81 rfl rfl (in_fix rfl) (ix_nI (j := 32 * x + (tkl s0 x).1.1 3 x 0 % 32) (by omega)) (by show 32 * x + (tkl s0 x).1.1 3 x 0 % 32 < 384; omega) ?_
          refine r_aload_n hK d_Md_tick_82 rfl rfl ?_
          refine r_iconst (v := nI 0) hK d_Md_tick_83 (by decide) ?_
          refine r_iload_n hK d_Md_tick_84 rfl rfl ?_
          refine r_iload_n hK d_Md_tick_85 rfl rfl ?_
          refine r_callVV hK d_Md_tick_86 m_Md_66 rfl (in_fix rfl) (c_Md_send hg (n := (tkl s0 x).1.2.length) (b := 0) hM2.1.2.2.2.2 hlen (by decide)) (by decide) rfl rfl rfl ?_
          refine r_iload_n hK d_Md_tick_89 rfl rfl ?_
          refine r_iconst (v := nI 1) hK d_Md_tick_90 (by decide) ?_
          refine r_iadd hK d_Md_tick_91 (nI_add _ _) ?_
          refine r_istore_n hK d_Md_tick_92 rfl rfl rfl ?_
          refine r_iinc hK d_Md_tick_93 rfl (nI_1 _) rfl ?_
          refine r_goto (tgt := 14) hK d_Md_tick_96 (by decide) ?_
          exact r_drop 3 hK (hih _ hM3 (fun k hk => by rw [sdM_k hk, up_k (by omega)]; exact hF k hk))
        · rw [if_neg (fun z => h2 z.2)] at hih
          refine r_iload_n hK d_Md_tick_14 rfl rfl ?_
          refine r_iconst (v := nI 3) hK d_Md_tick_15 (by decide) ?_
          refine r_aload_n hK d_Md_tick_16 rfl rfl ?_
          refine r_getI hK d_Md_tick_17 f_Md_50 rfl (in_fix rfl) rfl rfl hMt.1.1 ?_
          refine r_imul hK d_Md_tick_20 (pk_mul _ _) ?_
          refine rn_icmp_ge (tgt := 99) hK d_Md_tick_21 (by decide) (by first | omega | (split <;> omega)) (by first | omega | (split <;> omega)) (fun hno => absurd hno (by omega)) (fun _ => ?_)
          refine r_aload_n hK d_Md_tick_24 rfl rfl ?_
          refine r_getR hK d_Md_tick_25 f_Md_19 rfl (in_fix rfl) rfl rfl ?_
          refine r_iload_n hK d_Md_tick_28 rfl rfl ?_
          refine r_iald hK d_Md_tick_29 rfl rfl (in_fix rfl) (ix_nI (j := x) (by omega)) (by show x < 12; omega) p20 ?_
          refine r_istore_n hK d_Md_tick_30 rfl rfl rfl ?_
          refine r_iload_n hK d_Md_tick_31 rfl rfl ?_
          refine r_aload_n hK d_Md_tick_32 rfl rfl ?_
          refine r_getR hK d_Md_tick_33 f_Md_13 rfl (in_fix rfl) rfl rfl ?_
          refine r_iload_n hK d_Md_tick_36 rfl rfl ?_
          refine r_iald hK d_Md_tick_37 rfl rfl (in_fix rfl) (ix_nI (j := x) (by omega)) (by show x < 12; omega) p18 ?_
          refine rn_icmp_ge (tgt := 93) hK d_Md_tick_38 (by decide) (by first | omega | (split <;> omega)) (by first | omega | (split <;> omega)) (fun hno => absurd hno (by omega)) (fun _ => ?_)
          refine r_aload_n hK d_Md_tick_41 rfl rfl ?_
          refine r_getI hK d_Md_tick_42 f_Md_63 rfl (in_fix rfl) rfl rfl htm ?_
          refine r_aload_n hK d_Md_tick_45 rfl rfl ?_
          refine r_getR hK d_Md_tick_46 f_Md_29 rfl (in_fix rfl) rfl rfl ?_
          refine r_bipush (v := nI 32) hK d_Md_tick_49 (by decide) ?_
          refine r_iload_n hK d_Md_tick_51 rfl rfl ?_
          refine r_imul hK d_Md_tick_52 (pk_mul _ _) ?_
          refine r_iload_n hK d_Md_tick_53 rfl rfl ?_
          refine r_bipush (v := nI 32) hK d_Md_tick_54 (by decide) ?_
          refine r_irem hK d_Md_tick_56 (by decide) (pk_rem (by omega) (by decide) (by decide)) ?_
          refine r_iadd hK d_Md_tick_57 (nI_add _ _) ?_
          refine r_iald hK d_Md_tick_58 rfl rfl (in_fix rfl) (ix_nI (j := 32 * x + (tkl s0 x).1.1 3 x 0 % 32) (by omega)) (by show 32 * x + (tkl s0 x).1.1 3 x 0 % 32 < 384; omega) p23 ?_
          refine r_isub hK d_Md_tick_59 (pk_sub (by omega)) ?_
          refine r_iconst (v := nI 3) hK d_Md_tick_60 (by decide) ?_
          refine rn_icmp_lt (tgt := 93) hK d_Md_tick_61 (by decide) (by first | omega | (split <;> omega)) (by first | omega | (split <;> omega)) (fun _ => ?_) (fun hno => absurd hno (by omega))
          refine r_iinc hK d_Md_tick_93 rfl (nI_1 _) rfl ?_
          refine r_goto (tgt := 14) hK d_Md_tick_96 (by decide) ?_
          exact r_drop 3 hK (hih _ hMt hF)
      · rw [if_neg (fun z => h1 z.1)] at hih
        refine r_iload_n hK d_Md_tick_14 rfl rfl ?_
        refine r_iconst (v := nI 3) hK d_Md_tick_15 (by decide) ?_
        refine r_aload_n hK d_Md_tick_16 rfl rfl ?_
        refine r_getI hK d_Md_tick_17 f_Md_50 rfl (in_fix rfl) rfl rfl hMt.1.1 ?_
        refine r_imul hK d_Md_tick_20 (pk_mul _ _) ?_
        refine rn_icmp_ge (tgt := 99) hK d_Md_tick_21 (by decide) (by first | omega | (split <;> omega)) (by first | omega | (split <;> omega)) (fun hno => absurd hno (by omega)) (fun _ => ?_)
        refine r_aload_n hK d_Md_tick_24 rfl rfl ?_
        refine r_getR hK d_Md_tick_25 f_Md_19 rfl (in_fix rfl) rfl rfl ?_
        refine r_iload_n hK d_Md_tick_28 rfl rfl ?_
        refine r_iald hK d_Md_tick_29 rfl rfl (in_fix rfl) (ix_nI (j := x) (by omega)) (by show x < 12; omega) p20 ?_
        refine r_istore_n hK d_Md_tick_30 rfl rfl rfl ?_
        refine r_iload_n hK d_Md_tick_31 rfl rfl ?_
        refine r_aload_n hK d_Md_tick_32 rfl rfl ?_
        refine r_getR hK d_Md_tick_33 f_Md_13 rfl (in_fix rfl) rfl rfl ?_
        refine r_iload_n hK d_Md_tick_36 rfl rfl ?_
        refine r_iald hK d_Md_tick_37 rfl rfl (in_fix rfl) (ix_nI (j := x) (by omega)) (by show x < 12; omega) p18 ?_
        refine rn_icmp_ge (tgt := 93) hK d_Md_tick_38 (by decide) (by first | omega | (split <;> omega)) (by first | omega | (split <;> omega)) (fun _ => ?_) (fun hno => absurd hno (by omega))
        refine r_iinc hK d_Md_tick_93 rfl (nI_1 _) rfl ?_
        refine r_goto (tgt := 14) hK d_Md_tick_96 (by decide) ?_
        exact r_drop 3 hK (hih _ hMt hF)
  refine r_aload_n hK d_Md_tick_0 rfl rfl ?_
  refine r_aload_n hK d_Md_tick_1 rfl rfl ?_
  refine r_getI hK d_Md_tick_2 f_Md_63 rfl (in_fix rfl) rfl rfl hM.1.2.2.2.1 ?_
  refine r_iconst (v := nI 1) hK d_Md_tick_5 (by decide) ?_
  refine r_iadd hK d_Md_tick_6 (nI_add _ _) ?_
  refine r_putI hK d_Md_tick_7 f_Md_63 rfl (in_fix rfl) rfl rfl rfl rfl ?_
  refine r_iconst (v := nI 0) hK d_Md_tick_10 (by decide) ?_
  refine r_istore_n hK d_Md_tick_11 rfl rfl rfl ?_
  refine r_iconst (v := nI 0) hK d_Md_tick_12 (by decide) ?_
  refine r_istore_n hK d_Md_tick_13 rfl rfl rfl ?_
  exact hloop (3 * w) 0 _ (by omega) hM0 (fun k hk => up_k (by omega))
theorem c_Md_run (hg : Gok g) (hM : MP w sl ru s σ) (hA : AI w N s) (hT : s.1 12 0 0 + 20 ≤ 20 * N) (n : Int32) : Ct l g y_Md_run 2 [.ref (g.1 16 0), .int n] σ (PM w sl ru (runR w s n) σ) := by
  by_cases hb1 : n < nI 1
  · have hres : runR w s n = (s, -1) := if_pos (Or.inl hb1)
    rw [hres]
    refine ofK hg w_cd_Md_run (by decide) (by decide) (by first | decide | simp) (by simp [Value.category]) ?_
    intro K hK hR
    have hK : Gd l g "GradientShardsModel" b_Md_run 4 _ K := hK
    refine r_iload_n hK d_Md_run_0 rfl rfl ?_
    refine r_iconst (v := nI 1) hK d_Md_run_1 (by decide) ?_
    refine r_icmp_lt (tgt := 11) hK d_Md_run_2 (by decide) (fun _ => ?_) (fun hno => absurd (hb1) hno)
    refine r_iconst (v := -1) hK d_Md_run_11 (by decide) ?_
    exact hR.i d_Md_run_12 rfl (⟨rfl, hM, fun _ _ => rfl⟩)
  · by_cases hb2 : nI 20 < n
    · have hres : runR w s n = (s, -1) := if_pos (Or.inr hb2)
      rw [hres]
      refine ofK hg w_cd_Md_run (by decide) (by decide) (by first | decide | simp) (by simp [Value.category]) ?_
      intro K hK hR
      have hK : Gd l g "GradientShardsModel" b_Md_run 4 _ K := hK
      refine r_iload_n hK d_Md_run_0 rfl rfl ?_
      refine r_iconst (v := nI 1) hK d_Md_run_1 (by decide) ?_
      refine r_icmp_lt (tgt := 11) hK d_Md_run_2 (by decide) (fun hno => absurd hno (hb1)) (fun _ => ?_)
      refine r_iload_n hK d_Md_run_5 rfl rfl ?_
      refine r_bipush (v := nI 20) hK d_Md_run_6 (by decide) ?_
      refine r_icmp_le (tgt := 13) hK d_Md_run_8 (by decide) (fun hno => absurd hno (Int32.not_le.mpr hb2)) (fun _ => ?_)
      refine r_iconst (v := -1) hK d_Md_run_11 (by decide) ?_
      exact hR.i d_Md_run_12 rfl (⟨rfl, hM, fun _ _ => rfl⟩)
    · have hn0 : ¬ n < 0 := fun q => hb1 (Int32.lt_trans q (by decide))
      obtain ⟨m, hm, rfl⟩ : ∃ m, m ≤ 20 ∧ n = nI m := nI_of2 (M := nI 20) (n := 20) (by decide) hn0 (Int32.not_lt.mp hb2)
      have hres : runR w s (nI m) = ((rnn w s m).1, nI (rnn w s m).2) := by unfold runR; rw [if_neg (fun q => q.elim hb1 hb2), nI_clamp (by omega)]
      rw [hres]
      refine ofK hg w_cd_Md_run (by decide) (by decide) (by first | decide | simp) (by simp [Value.category]) ?_
      intro K hK hR
      have hK : Gd l g "GradientShardsModel" b_Md_run 4 _ K := hK
      have hloop : ∀ d i τ, i + d = m → MP w sl ru (rnn w s i).1 τ → (∀ k, k < 16 → τ k = σ k) → K 17 [.ref (g.1 16 0), .int (nI m), .int (nI (rnn w s i).2), .int (nI i)] [] τ := by
        intro d
        induction d with
        | zero =>
          intro i τ hi hMt hF
          obtain rfl : i = m := by omega
          refine r_iload_n hK d_Md_run_17 rfl rfl ?_
          refine r_iload_n hK d_Md_run_18 rfl rfl ?_
          refine rn_icmp_ge (tgt := 53) hK d_Md_run_19 (by decide) (by first | omega | (split <;> omega)) (by first | omega | (split <;> omega)) (fun _ => ?_) (fun hno => absurd hno (by omega))
          refine r_iload_n hK d_Md_run_53 rfl rfl ?_
          exact hR.i d_Md_run_54 rfl (⟨rfl, hMt, hF⟩)
        | succ d ih =>
          intro i τ hi hMt hF
          obtain ⟨hAt, ht12⟩ := AI_rnn hA i (by omega)
          have hlen := hAt.1.2.2.2.1
          have hstep : rnn w s (i + 1) = if 0 < (rnn w s i).1.2.length then (dlv (rnn w s i).1 0, (rnn w s i).2 + 1) else (tck w (rnn w s i).1, (rnn w s i).2) := rfl
          have hih := fun τ => ih (i + 1) τ (by omega)
          by_cases h0 : 0 < (rnn w s i).1.2.length
          · rw [hstep, if_pos h0] at hih
            have hdl := c_Md_deliver (l := l) hg hMt hAt (nI 0)
            have hdr : dlvR (rnn w s i).1 (nI 0) = (dlv (rnn w s i).1 0, nI (dlvN (rnn w s i).1 0)) := by unfold dlvR; rw [if_neg (ok_nI h0 (by omega)), nI_clamp (by omega)]
            rw [hdr] at hdl
            refine r_iload_n hK d_Md_run_17 rfl rfl ?_
            refine r_iload_n hK d_Md_run_18 rfl rfl ?_
            refine rn_icmp_ge (tgt := 53) hK d_Md_run_19 (by decide) (by first | omega | (split <;> omega)) (by first | omega | (split <;> omega)) (fun hno => absurd hno (by omega)) (fun _ => ?_)
            refine r_aload_n hK d_Md_run_22 rfl rfl ?_
            refine r_getI hK d_Md_run_23 f_Md_60 rfl (in_fix rfl) rfl rfl hMt.1.2.2.2.2 ?_
            refine r_if_le (tgt := 42) hK d_Md_run_26 (by decide) (fun hno => absurd hno (nI_nle h0 (by omega))) (fun _ => ?_)
            refine r_aload_n hK d_Md_run_29 rfl rfl ?_
            refine r_iconst (v := nI 0) hK d_Md_run_30 (by decide) ?_
            refine r_callVP hK d_Md_run_31 m_Md_120 rfl (in_fix rfl) (hdl) (by decide) rfl rfl rfl (fun r9 τ9 hP9 => ?_)
            obtain ⟨rfl, q2, q3⟩ := hP9
            refine r_pop hK d_Md_run_34 rfl ?_
            refine r_iload_n hK d_Md_run_35 rfl rfl ?_
            refine r_iconst (v := nI 1) hK d_Md_run_36 (by decide) ?_
            refine r_iadd hK d_Md_run_37 (nI_add _ _) ?_
            refine r_istore_n hK d_Md_run_38 rfl rfl rfl ?_
            refine r_goto (tgt := 47) hK d_Md_run_39 (by decide) ?_
            refine r_iinc hK d_Md_run_47 rfl (nI_1 _) rfl ?_
            refine r_goto (tgt := 17) hK d_Md_run_50 (by decide) ?_
            exact hih _ q2 (fun k hk => by rw [q3 k hk]; exact hF k hk)
          · rw [hstep, if_neg h0] at hih
            have htk := c_Md_tick (l := l) hg hMt hAt (by omega)
            have h00 : (rnn w s i).1.2.length = 0 := by omega
            refine r_iload_n hK d_Md_run_17 rfl rfl ?_
            refine r_iload_n hK d_Md_run_18 rfl rfl ?_
            refine rn_icmp_ge (tgt := 53) hK d_Md_run_19 (by decide) (by first | omega | (split <;> omega)) (by first | omega | (split <;> omega)) (fun hno => absurd hno (by omega)) (fun _ => ?_)
            refine r_aload_n hK d_Md_run_22 rfl rfl ?_
            refine r_getI hK d_Md_run_23 f_Md_60 rfl (in_fix rfl) rfl rfl hMt.1.2.2.2.2 ?_
            refine r_if_le (tgt := 42) hK d_Md_run_26 (by decide) (fun _ => ?_) (fun hno => absurd ((by rw [h00]; decide)) hno)
            refine r_aload_n hK d_Md_run_42 rfl rfl ?_
            refine r_callVP hK d_Md_run_43 m_Md_123 rfl (in_fix rfl) (htk) (by decide) rfl rfl rfl (fun r9 τ9 hP9 => ?_)
            obtain ⟨rfl, q2, q3⟩ := hP9
            refine r_pop hK d_Md_run_46 rfl ?_
            refine r_iinc hK d_Md_run_47 rfl (nI_1 _) rfl ?_
            refine r_goto (tgt := 17) hK d_Md_run_50 (by decide) ?_
            exact hih _ q2 (fun k hk => by rw [q3 k hk]; exact hF k hk)
      refine r_iload_n hK d_Md_run_0 rfl rfl ?_
      refine r_iconst (v := nI 1) hK d_Md_run_1 (by decide) ?_
      refine r_icmp_lt (tgt := 11) hK d_Md_run_2 (by decide) (fun hno => absurd hno (hb1)) (fun _ => ?_)
      refine r_iload_n hK d_Md_run_5 rfl rfl ?_
      refine r_bipush (v := nI 20) hK d_Md_run_6 (by decide) ?_
      refine r_icmp_le (tgt := 13) hK d_Md_run_8 (by decide) (fun _ => ?_) (fun hno => absurd (Int32.not_lt.mp hb2) hno)
      refine r_iconst (v := nI 0) hK d_Md_run_13 (by decide) ?_
      refine r_istore_n hK d_Md_run_14 rfl rfl rfl ?_
      refine r_iconst (v := nI 0) hK d_Md_run_15 (by decide) ?_
      refine r_istore_n hK d_Md_run_16 rfl rfl rfl ?_
      exact hloop m 0 σ (by omega) hM (fun _ _ => rfl)
theorem c_Md_done (hg : Gok g) (hM : MP w sl ru s σ) (hA : AI w N s) (i : Int32) : Ct l g y_Md_done 2 [.ref (g.1 16 0), .int i] σ (PM w sl ru (donR w s i) σ) := by
  rcases bad_or 3 (by decide) i with hb | ⟨h, hh, rfl⟩
  · have hres : donR w s i = (s, -1) := by unfold donR; rw [if_pos (Or.inl hb)]
    rw [hres]
    refine ofK hg w_cd_Md_done (by decide) (by decide) (by first | decide | simp) (by simp [Value.category]) ?_
    intro K hK hR
    have hK : Gd l g "GradientShardsModel" b_Md_done 2 _ K := hK
    refine r_iload_n hK d_Md_done_0 rfl rfl ?_
    refine r_callSI hK d_Md_done_1 m_Md_127 (c_Md_isShard_f hg hb) (by decide) rfl rfl rfl ?_
    refine rn_if_eq (tgt := 16) hK d_Md_done_4 (by decide) (by first | omega | (split <;> omega)) (fun _ => ?_) (fun hno => absurd hno (by omega))
    refine r_iconst (v := -1) hK d_Md_done_16 (by decide) ?_
    refine r_goto (tgt := 25) hK d_Md_done_17 (by decide) ?_
    exact hR.i d_Md_done_25 rfl (⟨rfl, hM, fun _ _ => rfl⟩)
  · have s24 := (hM.2.2.2.2.2.1 h hh).1
    have hd1 := (hA.2.2.2.1 h hh).1
    by_cases h7 : s.1 7 h 0 = 1
    · have hres : donR w s (nI h) = (s, -1) := by unfold donR; rw [nI_clamp (by omega), if_pos (Or.inr h7)]
      rw [hres]
      refine ofK hg w_cd_Md_done (by decide) (by decide) (by first | decide | simp) (by simp [Value.category]) ?_
      intro K hK hR
      have hK : Gd l g "GradientShardsModel" b_Md_done 2 _ K := hK
      refine r_iload_n hK d_Md_done_0 rfl rfl ?_
      refine r_callSI hK d_Md_done_1 m_Md_127 (c_Md_isShard_t hg hh) (by decide) rfl rfl rfl ?_
      refine rn_if_eq (tgt := 16) hK d_Md_done_4 (by decide) (by first | omega | (split <;> omega)) (fun hno => absurd hno (by omega)) (fun _ => ?_)
      refine r_aload_n hK d_Md_done_7 rfl rfl ?_
      refine r_getR hK d_Md_done_8 f_Md_32 rfl (in_fix rfl) rfl rfl ?_
      refine r_iload_n hK d_Md_done_11 rfl rfl ?_
      refine r_zald hK d_Md_done_12 rfl rfl (in_fix rfl) (ix_nI (j := h) (by omega)) hh s24 ?_
      refine rn_if_eq (tgt := 20) hK d_Md_done_13 (by decide) (by first | omega | (split <;> omega)) (fun hno => absurd hno (by omega)) (fun _ => ?_)
      refine r_iconst (v := -1) hK d_Md_done_16 (by decide) ?_
      refine r_goto (tgt := 25) hK d_Md_done_17 (by decide) ?_
      exact hR.i d_Md_done_25 rfl (⟨rfl, hM, fun _ _ => rfl⟩)
    · have hres : donR w s (nI h) = (s, nI (don w s.1 h)) := by unfold donR; rw [nI_clamp (by omega), if_neg (fun q => q.elim (ok_nI hh (by decide)) h7)]
      rw [hres]
      refine ofK hg w_cd_Md_done (by decide) (by decide) (by first | decide | simp) (by simp [Value.category]) ?_
      intro K hK hR
      have hK : Gd l g "GradientShardsModel" b_Md_done 2 _ K := hK
      refine r_iload_n hK d_Md_done_0 rfl rfl ?_
      refine r_callSI hK d_Md_done_1 m_Md_127 (c_Md_isShard_t hg hh) (by decide) rfl rfl rfl ?_
      refine rn_if_eq (tgt := 16) hK d_Md_done_4 (by decide) (by first | omega | (split <;> omega)) (fun hno => absurd hno (by omega)) (fun _ => ?_)
      refine r_aload_n hK d_Md_done_7 rfl rfl ?_
      refine r_getR hK d_Md_done_8 f_Md_32 rfl (in_fix rfl) rfl rfl ?_
      refine r_iload_n hK d_Md_done_11 rfl rfl ?_
      refine r_zald hK d_Md_done_12 rfl rfl (in_fix rfl) (ix_nI (j := h) (by omega)) hh s24 ?_
      refine rn_if_eq (tgt := 20) hK d_Md_done_13 (by decide) (by first | omega | (split <;> omega)) (fun _ => ?_) (fun hno => absurd hno (by omega))
      refine r_aload_n hK d_Md_done_20 rfl rfl ?_
      refine r_iload_n hK d_Md_done_21 rfl rfl ?_
      refine r_callVI hK d_Md_done_22 m_Md_106 rfl (in_fix rfl) (c_Md_clocksDone hg hM hA hh) (by decide) rfl rfl rfl ?_
      exact hR.i d_Md_done_25 rfl (⟨rfl, hM, fun _ _ => rfl⟩)
theorem c_Md_kept (hg : Gok g) (hM : MP w sl ru s σ) (hA : AI w N s) (i k : Int32) : Ct l g y_Md_kept 1 [.ref (g.1 16 0), .int i, .int k] σ (PM w sl ru (kepR w s i k) σ) := by
  have hw := hA.1.2.1
  rcases bad_or w (by omega) i with hb | ⟨v, hv, rfl⟩
  · have hres : kepR w s i k = (s, -1) := by unfold kepR; rw [if_pos (Or.inl hb)]
    rw [hres]
    refine ofK hg w_cd_Md_kept (by decide) (by decide) (by first | decide | simp) (by simp [Value.category]) ?_
    intro K hK hR
    have hK : Gd l g "GradientShardsModel" b_Md_kept 3 _ K := hK
    refine r_aload_n hK d_Md_kept_0 rfl rfl ?_
    refine r_iload_n hK d_Md_kept_1 rfl rfl ?_
    refine r_callVI hK d_Md_kept_2 m_Md_70 rfl (in_fix rfl) (c_Md_isWorker_f hg hM.1.1 hb) (by decide) rfl rfl rfl ?_
    refine rn_if_eq (tgt := 39) hK d_Md_kept_5 (by decide) (by first | omega | (split <;> omega)) (fun _ => ?_) (fun hno => absurd hno (by omega))
    refine r_iconst (v := -1) hK d_Md_kept_39 (by decide) ?_
    exact hR.i d_Md_kept_40 rfl (⟨rfl, hM, fun _ _ => rfl⟩)
  · rcases bad_or 3 (by decide) k with hb2 | ⟨h, hh, rfl⟩
    · have hres : kepR w s (nI v) k = (s, -1) := by unfold kepR; rw [if_pos (Or.inr hb2)]
      rw [hres]
      refine ofK hg w_cd_Md_kept (by decide) (by decide) (by first | decide | simp) (by simp [Value.category]) ?_
      intro K hK hR
      have hK : Gd l g "GradientShardsModel" b_Md_kept 3 _ K := hK
      refine r_aload_n hK d_Md_kept_0 rfl rfl ?_
      refine r_iload_n hK d_Md_kept_1 rfl rfl ?_
      refine r_callVI hK d_Md_kept_2 m_Md_70 rfl (in_fix rfl) (c_Md_isWorker_t hg hM.1.1 hv hw) (by decide) rfl rfl rfl ?_
      refine rn_if_eq (tgt := 39) hK d_Md_kept_5 (by decide) (by first | omega | (split <;> omega)) (fun hno => absurd hno (by omega)) (fun _ => ?_)
      refine r_iload_n hK d_Md_kept_8 rfl rfl ?_
      refine r_callSI hK d_Md_kept_9 m_Md_127 (c_Md_isShard_f hg hb2) (by decide) rfl rfl rfl ?_
      refine rn_if_eq (tgt := 39) hK d_Md_kept_12 (by decide) (by first | omega | (split <;> omega)) (fun _ => ?_) (fun hno => absurd hno (by omega))
      refine r_iconst (v := -1) hK d_Md_kept_39 (by decide) ?_
      exact hR.i d_Md_kept_40 rfl (⟨rfl, hM, fun _ _ => rfl⟩)
    · have hres : kepR w s (nI v) (nI h) = (s, nI (keq s (3 * v + h))) := by unfold kepR; rw [if_neg (fun q => q.elim (ok_nI hv (by omega)) (ok_nI hh (by decide))), nI_clamp (by omega), nI_clamp (by omega)]
      rw [hres]
      have hlk : 3 * v + h < 3 * w := by omega
      obtain ⟨p18, p19, p20⟩ := hM.2.2.1 (3 * v + h) hlk
      obtain ⟨l1, l2, l3, l4, -⟩ := hA.2.2.1 (3 * v + h) hlk
      refine ofK hg w_cd_Md_kept (by decide) (by decide) (by first | decide | simp) (by simp [Value.category]) ?_
      intro K hK hR
      have hK : Gd l g "GradientShardsModel" b_Md_kept 3 _ K := hK
      refine r_aload_n hK d_Md_kept_0 rfl rfl ?_
      refine r_iload_n hK d_Md_kept_1 rfl rfl ?_
      refine r_callVI hK d_Md_kept_2 m_Md_70 rfl (in_fix rfl) (c_Md_isWorker_t hg hM.1.1 hv hw) (by decide) rfl rfl rfl ?_
      refine rn_if_eq (tgt := 39) hK d_Md_kept_5 (by decide) (by first | omega | (split <;> omega)) (fun hno => absurd hno (by omega)) (fun _ => ?_)
      refine r_iload_n hK d_Md_kept_8 rfl rfl ?_
      refine r_callSI hK d_Md_kept_9 m_Md_127 (c_Md_isShard_t hg hh) (by decide) rfl rfl rfl ?_
      refine rn_if_eq (tgt := 39) hK d_Md_kept_12 (by decide) (by first | omega | (split <;> omega)) (fun hno => absurd hno (by omega)) (fun _ => ?_)
      refine r_aload_n hK d_Md_kept_15 rfl rfl ?_
      refine r_getR hK d_Md_kept_16 f_Md_13 rfl (in_fix rfl) rfl rfl ?_
      refine r_iconst (v := nI 3) hK d_Md_kept_19 (by decide) ?_
      refine r_iload_n hK d_Md_kept_20 rfl rfl ?_
      refine r_imul hK d_Md_kept_21 (pk_mul _ _) ?_
      refine r_iload_n hK d_Md_kept_22 rfl rfl ?_
      refine r_iadd hK d_Md_kept_23 (nI_add _ _) ?_
      refine r_iald hK d_Md_kept_24 rfl rfl (in_fix rfl) (ix_nI (j := 3 * v + h) (by omega)) (by show 3 * v + h < 12; omega) p18 ?_
      refine r_aload_n hK d_Md_kept_25 rfl rfl ?_
      refine r_getR hK d_Md_kept_26 f_Md_16 rfl (in_fix rfl) rfl rfl ?_
      refine r_iconst (v := nI 3) hK d_Md_kept_29 (by decide) ?_
      refine r_iload_n hK d_Md_kept_30 rfl rfl ?_
      refine r_imul hK d_Md_kept_31 (pk_mul _ _) ?_
      refine r_iload_n hK d_Md_kept_32 rfl rfl ?_
      refine r_iadd hK d_Md_kept_33 (nI_add _ _) ?_
      refine r_iald hK d_Md_kept_34 rfl rfl (in_fix rfl) (ix_nI (j := 3 * v + h) (by omega)) (by show 3 * v + h < 12; omega) p19 ?_
      refine r_isub hK d_Md_kept_35 (pk_sub (by omega)) ?_
      refine r_goto (tgt := 40) hK d_Md_kept_36 (by decide) ?_
      exact hR.i d_Md_kept_40 rfl (⟨rfl, hM, fun _ _ => rfl⟩)
theorem c_Md_unconfirmed (hg : Gok g) (hM : MP w sl ru s σ) (hA : AI w N s) (i k : Int32) : Ct l g y_Md_unconfirmed 1 [.ref (g.1 16 0), .int i, .int k] σ (PM w sl ru (uncR w s i k) σ) := by
  have hw := hA.1.2.1
  rcases bad_or w (by omega) i with hb | ⟨v, hv, rfl⟩
  · have hres : uncR w s i k = (s, -1) := by unfold uncR; rw [if_pos (Or.inl hb)]
    rw [hres]
    refine ofK hg w_cd_Md_unconfirmed (by decide) (by decide) (by first | decide | simp) (by simp [Value.category]) ?_
    intro K hK hR
    have hK : Gd l g "GradientShardsModel" b_Md_unconfirmed 3 _ K := hK
    refine r_aload_n hK d_Md_unconfirmed_0 rfl rfl ?_
    refine r_iload_n hK d_Md_unconfirmed_1 rfl rfl ?_
    refine r_callVI hK d_Md_unconfirmed_2 m_Md_70 rfl (in_fix rfl) (c_Md_isWorker_f hg hM.1.1 hb) (by decide) rfl rfl rfl ?_
    refine rn_if_eq (tgt := 39) hK d_Md_unconfirmed_5 (by decide) (by first | omega | (split <;> omega)) (fun _ => ?_) (fun hno => absurd hno (by omega))
    refine r_iconst (v := -1) hK d_Md_unconfirmed_39 (by decide) ?_
    exact hR.i d_Md_unconfirmed_40 rfl (⟨rfl, hM, fun _ _ => rfl⟩)
  · rcases bad_or 3 (by decide) k with hb2 | ⟨h, hh, rfl⟩
    · have hres : uncR w s (nI v) k = (s, -1) := by unfold uncR; rw [if_pos (Or.inr hb2)]
      rw [hres]
      refine ofK hg w_cd_Md_unconfirmed (by decide) (by decide) (by first | decide | simp) (by simp [Value.category]) ?_
      intro K hK hR
      have hK : Gd l g "GradientShardsModel" b_Md_unconfirmed 3 _ K := hK
      refine r_aload_n hK d_Md_unconfirmed_0 rfl rfl ?_
      refine r_iload_n hK d_Md_unconfirmed_1 rfl rfl ?_
      refine r_callVI hK d_Md_unconfirmed_2 m_Md_70 rfl (in_fix rfl) (c_Md_isWorker_t hg hM.1.1 hv hw) (by decide) rfl rfl rfl ?_
      refine rn_if_eq (tgt := 39) hK d_Md_unconfirmed_5 (by decide) (by first | omega | (split <;> omega)) (fun hno => absurd hno (by omega)) (fun _ => ?_)
      refine r_iload_n hK d_Md_unconfirmed_8 rfl rfl ?_
      refine r_callSI hK d_Md_unconfirmed_9 m_Md_127 (c_Md_isShard_f hg hb2) (by decide) rfl rfl rfl ?_
      refine rn_if_eq (tgt := 39) hK d_Md_unconfirmed_12 (by decide) (by first | omega | (split <;> omega)) (fun _ => ?_) (fun hno => absurd hno (by omega))
      refine r_iconst (v := -1) hK d_Md_unconfirmed_39 (by decide) ?_
      exact hR.i d_Md_unconfirmed_40 rfl (⟨rfl, hM, fun _ _ => rfl⟩)
    · have hres : uncR w s (nI v) (nI h) = (s, nI (s.1 1 (3 * v + h) 0 - s.1 3 (3 * v + h) 0)) := by unfold uncR; rw [if_neg (fun q => q.elim (ok_nI hv (by omega)) (ok_nI hh (by decide))), nI_clamp (by omega), nI_clamp (by omega)]
      rw [hres]
      have hlk : 3 * v + h < 3 * w := by omega
      obtain ⟨p18, p19, p20⟩ := hM.2.2.1 (3 * v + h) hlk
      obtain ⟨l1, l2, l3, l4, -⟩ := hA.2.2.1 (3 * v + h) hlk
      refine ofK hg w_cd_Md_unconfirmed (by decide) (by decide) (by first | decide | simp) (by simp [Value.category]) ?_
      intro K hK hR
      have hK : Gd l g "GradientShardsModel" b_Md_unconfirmed 3 _ K := hK
      refine r_aload_n hK d_Md_unconfirmed_0 rfl rfl ?_
      refine r_iload_n hK d_Md_unconfirmed_1 rfl rfl ?_
      refine r_callVI hK d_Md_unconfirmed_2 m_Md_70 rfl (in_fix rfl) (c_Md_isWorker_t hg hM.1.1 hv hw) (by decide) rfl rfl rfl ?_
      refine rn_if_eq (tgt := 39) hK d_Md_unconfirmed_5 (by decide) (by first | omega | (split <;> omega)) (fun hno => absurd hno (by omega)) (fun _ => ?_)
      refine r_iload_n hK d_Md_unconfirmed_8 rfl rfl ?_
      refine r_callSI hK d_Md_unconfirmed_9 m_Md_127 (c_Md_isShard_t hg hh) (by decide) rfl rfl rfl ?_
      refine rn_if_eq (tgt := 39) hK d_Md_unconfirmed_12 (by decide) (by first | omega | (split <;> omega)) (fun hno => absurd hno (by omega)) (fun _ => ?_)
      refine r_aload_n hK d_Md_unconfirmed_15 rfl rfl ?_
      refine r_getR hK d_Md_unconfirmed_16 f_Md_13 rfl (in_fix rfl) rfl rfl ?_
      refine r_iconst (v := nI 3) hK d_Md_unconfirmed_19 (by decide) ?_
      refine r_iload_n hK d_Md_unconfirmed_20 rfl rfl ?_
      refine r_imul hK d_Md_unconfirmed_21 (pk_mul _ _) ?_
      refine r_iload_n hK d_Md_unconfirmed_22 rfl rfl ?_
      refine r_iadd hK d_Md_unconfirmed_23 (nI_add _ _) ?_
      refine r_iald hK d_Md_unconfirmed_24 rfl rfl (in_fix rfl) (ix_nI (j := 3 * v + h) (by omega)) (by show 3 * v + h < 12; omega) p18 ?_
      refine r_aload_n hK d_Md_unconfirmed_25 rfl rfl ?_
      refine r_getR hK d_Md_unconfirmed_26 f_Md_19 rfl (in_fix rfl) rfl rfl ?_
      refine r_iconst (v := nI 3) hK d_Md_unconfirmed_29 (by decide) ?_
      refine r_iload_n hK d_Md_unconfirmed_30 rfl rfl ?_
      refine r_imul hK d_Md_unconfirmed_31 (pk_mul _ _) ?_
      refine r_iload_n hK d_Md_unconfirmed_32 rfl rfl ?_
      refine r_iadd hK d_Md_unconfirmed_33 (nI_add _ _) ?_
      refine r_iald hK d_Md_unconfirmed_34 rfl rfl (in_fix rfl) (ix_nI (j := 3 * v + h) (by omega)) (by show 3 * v + h < 12; omega) p20 ?_
      refine r_isub hK d_Md_unconfirmed_35 (pk_sub (by omega)) ?_
      refine r_goto (tgt := 40) hK d_Md_unconfirmed_36 (by decide) ?_
      exact hR.i d_Md_unconfirmed_40 rfl (⟨rfl, hM, fun _ _ => rfl⟩)
theorem c_Md_packets (hg : Gok g) (hM : MP w sl ru s σ) : Ct l g y_Md_packets 1 [.ref (g.1 16 0)] σ (PM w sl ru (pksR s) σ) := by
  refine ofK hg w_cd_Md_packets (by decide) (by decide) (by first | decide | simp) (by simp [Value.category]) ?_
  intro K hK hR
  have hK : Gd l g "GradientShardsModel" b_Md_packets 1 _ K := hK
  refine r_aload_n hK d_Md_packets_0 rfl rfl ?_
  refine r_getI hK d_Md_packets_1 f_Md_60 rfl (in_fix rfl) rfl rfl hM.1.2.2.2.2 ?_
  exact hR.i d_Md_packets_4 rfl (⟨rfl, hM, fun _ _ => rfl⟩)
theorem c_Md_packet (hg : Gok g) (hM : MP w sl ru s σ) (hA : AI w N s) (i : Int32) : Ct l g y_Md_packet 1 [.ref (g.1 16 0), .int i] σ (PM w sl ru (pktR s i) σ) := by
  have hlen := hA.1.2.2.2.1
  have hw := hA.1.2.1
  have h14 := hM.1.2.2.2.2
  rcases bad_or s.2.length (by omega) i with hb | ⟨j, hj, rfl⟩
  · have hres : pktR s i = (s, -1) := by unfold pktR; rw [if_pos hb]
    rw [hres]
    refine ofK hg w_cd_Md_packet (by decide) (by decide) (by first | decide | simp) (by simp [Value.category]) ?_
    intro K hK hR
    have hK : Gd l g "GradientShardsModel" b_Md_packet 2 _ K := hK
    refine r_iload_n hK d_Md_packet_0 rfl rfl ?_
    refine r_if_lt (tgt := 12) hK d_Md_packet_1 (by decide) (fun h1 => ?_) (fun h1 => ?_)
    · refine r_iconst (v := -1) hK d_Md_packet_12 (by decide) ?_
      exact hR.i d_Md_packet_13 rfl (⟨rfl, hM, fun _ _ => rfl⟩)
    · refine r_iload_n hK d_Md_packet_4 rfl rfl ?_
      refine r_aload_n hK d_Md_packet_5 rfl rfl ?_
      refine r_getI hK d_Md_packet_6 f_Md_60 rfl (in_fix rfl) rfl rfl h14 ?_
      refine r_icmp_lt (tgt := 14) hK d_Md_packet_9 (by decide) (fun hno => absurd hno (Int32.not_lt.mpr (hb.resolve_left h1))) (fun _ => ?_)
      refine r_iconst (v := -1) hK d_Md_packet_12 (by decide) ?_
      exact hR.i d_Md_packet_13 rfl (⟨rfl, hM, fun _ _ => rfl⟩)
  · have hres : pktR s (nI j) = (s, nI (s.2.getD j 0)) := by unfold pktR; rw [if_neg (ok_nI hj (by omega)), nI_clamp (by omega)]
    rw [hres]
    obtain ⟨v27, v28, v29⟩ := hM.2.2.2.2.2.2.2 j _ (pk_get hj)
    obtain ⟨c1, c2, c3, c4⟩ := AI_pk hA hj
    obtain ⟨e1, e2, e3⟩ := lkc_lt c1 c2
    generalize s.2.getD j 0 = c at *
    have hc2 : c % 2 < 2 := Nat.mod_lt _ (by decide)
    have ec : c % 2 + 2 * (lkc c / 3) + 8 * (lkc c % 3) + 32 * (c / 32) = c := by
      have h1 : c / 2 / 4 = c / 8 := by rw [Nat.div_div_eq_div_mul]
      have h2 : c / 8 / 4 = c / 32 := by rw [Nat.div_div_eq_div_mul]
      rw [e2, e3]
      omega
    refine ofK hg w_cd_Md_packet (by decide) (by decide) (by first | decide | simp) (by simp [Value.category]) ?_
    intro K hK hR
    have hK : Gd l g "GradientShardsModel" b_Md_packet 2 _ K := hK
    refine r_iload_n hK d_Md_packet_0 rfl rfl ?_
    refine r_if_lt (tgt := 12) hK d_Md_packet_1 (by decide) (fun hno => absurd hno (nI_pos (by omega))) (fun _ => ?_)
    refine r_iload_n hK d_Md_packet_4 rfl rfl ?_
    refine r_aload_n hK d_Md_packet_5 rfl rfl ?_
    refine r_getI hK d_Md_packet_6 f_Md_60 rfl (in_fix rfl) rfl rfl h14 ?_
    refine rn_icmp_lt (tgt := 14) hK d_Md_packet_9 (by decide) (by first | omega | (split <;> omega)) (by first | omega | (split <;> omega)) (fun _ => ?_) (fun hno => absurd hno (by omega))
    refine r_aload_n hK d_Md_packet_14 rfl rfl ?_
    refine r_getR hK d_Md_packet_15 f_Md_41 rfl (in_fix rfl) rfl rfl ?_
    refine r_iload_n hK d_Md_packet_18 rfl rfl ?_
    refine r_zald hK d_Md_packet_19 rfl rfl (in_fix rfl) (ix_nI (j := j) (by omega)) (by show j < 24; omega) v27 ?_
    refine rn_if_eq (tgt := 27) hK d_Md_packet_20 (by decide) (by first | omega | (split <;> omega)) (fun q => ?_) (fun q => ?_)
    · rw [q] at ec
      refine r_iconst (v := nI 0) hK d_Md_packet_27 (by decide) ?_
      refine r_iconst (v := nI 2) hK d_Md_packet_28 (by decide) ?_
      refine r_aload_n hK d_Md_packet_29 rfl rfl ?_
      refine r_getR hK d_Md_packet_30 f_Md_44 rfl (in_fix rfl) rfl rfl ?_
      refine r_iload_n hK d_Md_packet_33 rfl rfl ?_
      refine r_iald hK d_Md_packet_34 rfl rfl (in_fix rfl) (ix_nI (j := j) (by omega)) (by show j < 24; omega) v28 ?_
      refine r_iconst (v := nI 3) hK d_Md_packet_35 (by decide) ?_
      refine r_idiv hK d_Md_packet_36 (by decide) (pk_div (by omega) (by decide) (by decide)) ?_
      refine r_imul hK d_Md_packet_37 (pk_mul _ _) ?_
      refine r_iadd hK d_Md_packet_38 (nI_add _ _) ?_
      refine r_bipush (v := nI 8) hK d_Md_packet_39 (by decide) ?_
      refine r_aload_n hK d_Md_packet_41 rfl rfl ?_
      refine r_getR hK d_Md_packet_42 f_Md_44 rfl (in_fix rfl) rfl rfl ?_
      refine r_iload_n hK d_Md_packet_45 rfl rfl ?_
      refine r_iald hK d_Md_packet_46 rfl rfl (in_fix rfl) (ix_nI (j := j) (by omega)) (by show j < 24; omega) v28 ?_
      refine r_iconst (v := nI 3) hK d_Md_packet_47 (by decide) ?_
      refine r_irem hK d_Md_packet_48 (by decide) (pk_rem (by omega) (by decide) (by decide)) ?_
      refine r_imul hK d_Md_packet_49 (pk_mul _ _) ?_
      refine r_iadd hK d_Md_packet_50 (nI_add _ _) ?_
      refine r_bipush (v := nI 32) hK d_Md_packet_51 (by decide) ?_
      refine r_aload_n hK d_Md_packet_53 rfl rfl ?_
      refine r_getR hK d_Md_packet_54 f_Md_47 rfl (in_fix rfl) rfl rfl ?_
      refine r_iload_n hK d_Md_packet_57 rfl rfl ?_
      refine r_iald hK d_Md_packet_58 rfl rfl (in_fix rfl) (ix_nI (j := j) (by omega)) (by show j < 24; omega) v29 ?_
      refine r_imul hK d_Md_packet_59 (pk_mul _ _) ?_
      refine r_iadd hK d_Md_packet_60 (nI_add _ _) ?_
      exact hR.i d_Md_packet_61 rfl (⟨by rw [ec], hM, fun _ _ => rfl⟩)
    · rw [show c % 2 = 1 by omega] at ec
      refine r_iconst (v := nI 1) hK d_Md_packet_23 (by decide) ?_
      refine r_goto (tgt := 28) hK d_Md_packet_24 (by decide) ?_
      refine r_iconst (v := nI 2) hK d_Md_packet_28 (by decide) ?_
      refine r_aload_n hK d_Md_packet_29 rfl rfl ?_
      refine r_getR hK d_Md_packet_30 f_Md_44 rfl (in_fix rfl) rfl rfl ?_
      refine r_iload_n hK d_Md_packet_33 rfl rfl ?_
      refine r_iald hK d_Md_packet_34 rfl rfl (in_fix rfl) (ix_nI (j := j) (by omega)) (by show j < 24; omega) v28 ?_
      refine r_iconst (v := nI 3) hK d_Md_packet_35 (by decide) ?_
      refine r_idiv hK d_Md_packet_36 (by decide) (pk_div (by omega) (by decide) (by decide)) ?_
      refine r_imul hK d_Md_packet_37 (pk_mul _ _) ?_
      refine r_iadd hK d_Md_packet_38 (nI_add _ _) ?_
      refine r_bipush (v := nI 8) hK d_Md_packet_39 (by decide) ?_
      refine r_aload_n hK d_Md_packet_41 rfl rfl ?_
      refine r_getR hK d_Md_packet_42 f_Md_44 rfl (in_fix rfl) rfl rfl ?_
      refine r_iload_n hK d_Md_packet_45 rfl rfl ?_
      refine r_iald hK d_Md_packet_46 rfl rfl (in_fix rfl) (ix_nI (j := j) (by omega)) (by show j < 24; omega) v28 ?_
      refine r_iconst (v := nI 3) hK d_Md_packet_47 (by decide) ?_
      refine r_irem hK d_Md_packet_48 (by decide) (pk_rem (by omega) (by decide) (by decide)) ?_
      refine r_imul hK d_Md_packet_49 (pk_mul _ _) ?_
      refine r_iadd hK d_Md_packet_50 (nI_add _ _) ?_
      refine r_bipush (v := nI 32) hK d_Md_packet_51 (by decide) ?_
      refine r_aload_n hK d_Md_packet_53 rfl rfl ?_
      refine r_getR hK d_Md_packet_54 f_Md_47 rfl (in_fix rfl) rfl rfl ?_
      refine r_iload_n hK d_Md_packet_57 rfl rfl ?_
      refine r_iald hK d_Md_packet_58 rfl rfl (in_fix rfl) (ix_nI (j := j) (by omega)) (by show j < 24; omega) v29 ?_
      refine r_imul hK d_Md_packet_59 (pk_mul _ _) ?_
      refine r_iadd hK d_Md_packet_60 (nI_add _ _) ?_
      exact hR.i d_Md_packet_61 rfl (⟨by rw [ec], hM, fun _ _ => rfl⟩)
theorem c_Md_count (hg : Gok g) (hM : MP w sl ru s σ) (i : Int32) : Ct l g y_Md_count 1 [.ref (g.1 16 0), .int i] σ (PM w sl ru (cntR s i) σ) := by
  rcases bad_or 6 (by decide) i with hb | ⟨c, hc, rfl⟩
  · have hres : cntR s i = (s, -1) := by unfold cntR; rw [if_pos hb]
    rw [hres]
    refine ofK hg w_cd_Md_count (by decide) (by decide) (by first | decide | simp) (by simp [Value.category]) ?_
    intro K hK hR
    have hK : Gd l g "GradientShardsModel" b_Md_count 2 _ K := hK
    refine r_iload_n hK d_Md_count_0 rfl rfl ?_
    refine r_if_lt (tgt := 9) hK d_Md_count_1 (by decide) (fun h1 => ?_) (fun h1 => ?_)
    · refine r_iconst (v := -1) hK d_Md_count_9 (by decide) ?_
      refine r_goto (tgt := 19) hK d_Md_count_10 (by decide) ?_
      exact hR.i d_Md_count_19 rfl (⟨rfl, hM, fun _ _ => rfl⟩)
    · refine r_iload_n hK d_Md_count_4 rfl rfl ?_
      refine r_iconst (v := nI 5) hK d_Md_count_5 (by decide) ?_
      refine r_icmp_le (tgt := 13) hK d_Md_count_6 (by decide) (fun hno => absurd hno (fun z => absurd (Int32.lt_of_lt_of_le (show nI 5 < nI 6 by decide) (hb.resolve_left h1)) (Int32.not_lt.mpr z))) (fun _ => ?_)
      refine r_iconst (v := -1) hK d_Md_count_9 (by decide) ?_
      refine r_goto (tgt := 19) hK d_Md_count_10 (by decide) ?_
      exact hR.i d_Md_count_19 rfl (⟨rfl, hM, fun _ _ => rfl⟩)
  · have hres : cntR s (nI c) = (s, nI (s.1 9 c 0)) := by unfold cntR; rw [if_neg (ok_nI hc (by decide)), nI_clamp (by omega)]
    rw [hres]
    refine ofK hg w_cd_Md_count (by decide) (by decide) (by first | decide | simp) (by simp [Value.category]) ?_
    intro K hK hR
    have hK : Gd l g "GradientShardsModel" b_Md_count 2 _ K := hK
    refine r_iload_n hK d_Md_count_0 rfl rfl ?_
    refine r_if_lt (tgt := 9) hK d_Md_count_1 (by decide) (fun hno => absurd hno (nI_pos (by omega))) (fun _ => ?_)
    refine r_iload_n hK d_Md_count_4 rfl rfl ?_
    refine r_iconst (v := nI 5) hK d_Md_count_5 (by decide) ?_
    refine rn_icmp_le (tgt := 13) hK d_Md_count_6 (by decide) (by first | omega | (split <;> omega)) (by first | omega | (split <;> omega)) (fun _ => ?_) (fun hno => absurd hno (by omega))
    refine r_aload_n hK d_Md_count_13 rfl rfl ?_
    refine r_getR hK d_Md_count_14 f_Md_38 rfl (in_fix rfl) rfl rfl ?_
    refine r_iload_n hK d_Md_count_17 rfl rfl ?_
    refine r_iald hK d_Md_count_18 rfl rfl (in_fix rfl) (ix_nI (j := c) (by omega)) hc (hM.2.2.2.2.2.2.1 c hc) ?_
    exact hR.i d_Md_count_19 rfl (⟨rfl, hM, fun _ _ => rfl⟩)
end Md3
