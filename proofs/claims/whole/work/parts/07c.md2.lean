/-! the reference: public methods -/
abbrev PM (w sl ru : Nat) (q : Sp × Int32) (σ : Sg) : Option Value → Sg → Prop := fun r τ => r = some (.int q.2) ∧ MP w sl ru q.1 τ ∧ ∀ k, k < 16 → τ k = σ k
theorem sdM_k {σ : Sg} {n : Nat} {x y z : Int32} {k : Nat} (h : k < 16) : sdM σ n x y z k = σ k := by
  unfold sdM
  split
  · rw [up_k (by omega), up_k (by omega), up_k (by omega), up_k (by omega), up_k (by omega)]
  · rw [up_k (by omega), up_k (by omega)]
theorem rmM_k {σ : Sg} {n j : Nat} {k : Nat} (h : k < 16) : rmM σ n j k = σ k := by
  unfold rmM
  rw [upr_k (by omega), upr_k (by omega), upr_k (by omega), up_k (by omega)]
theorem wo_mem2 {ru : Nat} (G : Nat → Int32) (hru : ru = 2) (hG : ∀ c, ∃ q, q ≤ 9801 ∧ G c * G c = nI q) (c : Nat) (hc : c ≤ 1000) : ∃ M, M < 2 ^ 24 ∧ (wo ru G c).2 + G c * G c = nI M := by
  subst hru
  obtain ⟨M, h1, h2⟩ := wo_mem G hG c
  obtain ⟨q, h3, h4⟩ := hG c
  exact ⟨M + q, by omega, by rw [h2, h4, nI_add]⟩
section Md2
variable {l : Launch} {g : Gc} {σ : Sg} {sl ru N w : Nat} {s : Sp}
theorem c_Md_workOut (hg : Gok g) (hM : MP w sl ru s σ) (hA : AI w N s) (hru : ru ≤ 2) {k c : Nat} (hk : k < 6) (hc : c ≤ 1000) : CV l g y_Md_workOut 2 [.ref (g.1 16 0), .int (nI k), .int (nI c)] σ (up (up σ 16 0 18 (wko ru w s.1 k c).1) 16 0 19 (wko ru w s.1 k c).2) := by
  have hw := hA.1.2.1
  have hMt : ∀ x y, MP w sl ru s (up (up σ 16 0 18 x) 16 0 19 y) := fun x y => MP_16 (MP_16 hM (by omega) (by omega)) (by omega) (by omega)
  have v18 : ∀ x y, up (up σ 16 0 18 x) 16 0 19 y 16 0 18 = x := fun x y => by simp [up_eq]
  have v19 : ∀ x y, up (up σ 16 0 18 x) 16 0 19 y 16 0 19 = y := fun x y => by simp [up_eq]
  have u18 : ∀ x y z, up (up (up σ 16 0 18 x) 16 0 19 y) 16 0 18 z = up (up σ 16 0 18 z) 16 0 19 y := fun x y z => by rw [up_comm _ _ _ (fun q => absurd q.2.2 (by decide)), up_same]
  refine ofK hg w_cd_Md_workOut (by decide) (by decide) (by first | decide | simp) (by simp [Value.category]) ?_
  intro K hK hR
  have hK : Gd l g "GradientShardsModel" b_Md_workOut 7 _ K := hK
  have hloop : ∀ d i, i + d = c → K 12 [.ref (g.1 16 0), .int (nI k), .int (nI c), .int (nI i)] [] (up (up σ 16 0 18 (wko ru w s.1 k i).1) 16 0 19 (wko ru w s.1 k i).2) := by
    intro d
    induction d with
    | zero =>
      intro i hi
      obtain rfl : i = c := by omega
      refine r_iload_n hK d_Md_workOut_12 rfl rfl ?_
      refine r_iload_n hK d_Md_workOut_13 rfl rfl ?_
      refine rn_icmp_ge (tgt := 167) hK d_Md_workOut_14 (by decide) (by first | omega | (split <;> omega)) (by first | omega | (split <;> omega)) (fun _ => ?_) (fun hno => absurd hno (by omega))
      exact hR.v d_Md_workOut_167 (⟨rfl, rfl⟩)
    | succ d ih =>
      intro i hi
      have ih2 := ih (i + 1) (by omega)
      have e1 : wko ru w s.1 k (i + 1) = stepR ru (gsm w s.1 k i) (wko ru w s.1 k i) := rfl
      obtain ⟨M, hM1, hM2⟩ : ∃ M, M < 2 ^ 24 ∧ (ru = 2 → (wko ru w s.1 k i).2 + gsm w s.1 k i * gsm w s.1 k i = nI M) := by
        by_cases q : ru = 2
        · obtain ⟨M, h1, h2⟩ := wo_mem2 (gsm w s.1 k) q (fun c => gF_sq _ w) i (by omega)
          exact ⟨M, h1, fun _ => h2⟩
        · exact ⟨0, by decide, fun z => absurd z q⟩
      generalize hV : (wko ru w s.1 k i).1 = V at *
      generalize hW : (wko ru w s.1 k i).2 = Mm at *
      have e2 : wko ru w s.1 k i = (V, Mm) := by rw [← hV, ← hW]
      have hin : ∀ d v, v + d = w → K 23 [.ref (g.1 16 0), .int (nI k), .int (nI c), .int (nI i), .int (gF (con s.1 k i) v), .int (nI v)] [] (up (up σ 16 0 18 V) 16 0 19 Mm) := by
        intro d
        induction d with
        | zero =>
          intro v hv
          obtain rfl : v = w := by omega
          have hgs : gF (con s.1 k i) v = gsm v s.1 k i := rfl
          rw [hgs]
          generalize gsm v s.1 k i = G at *
          rw [e1, e2] at ih2
          rcases (by omega : ru = 0 ∨ ru = 1 ∨ ru = 2) with rfl | rfl | rfl
          · have e3 : stepR 0 G (V, Mm) = (V - G, Mm) := rfl
            rw [e3] at ih2
            refine r_iload hK d_Md_workOut_23 rfl ?_
            refine r_aload_n hK d_Md_workOut_25 rfl rfl ?_
            refine r_getI hK d_Md_workOut_26 f_Md_50 rfl (in_fix rfl) rfl rfl (hMt _ _).1.1 ?_
            refine rn_icmp_ge (tgt := 58) hK d_Md_workOut_29 (by decide) (by first | omega | (split <;> omega)) (by first | omega | (split <;> omega)) (fun _ => ?_) (fun hno => absurd hno (by omega))
            refine r_aload_n hK d_Md_workOut_58 rfl rfl ?_
            refine r_getI hK d_Md_workOut_59 f_Md_57 rfl (in_fix rfl) rfl rfl (hMt _ _).1.2.2.1 ?_
            refine rn_if_ne (tgt := 79) hK d_Md_workOut_62 (by decide) (by first | omega | (split <;> omega)) (fun hno => absurd hno (by omega)) (fun _ => ?_)
            refine r_aload_n hK d_Md_workOut_65 rfl rfl ?_
            refine r_aload_n hK d_Md_workOut_66 rfl rfl ?_
            refine r_getI hK d_Md_workOut_67 f_Md_93 rfl (in_fix rfl) rfl rfl (v18 _ _) ?_
            refine r_iload hK d_Md_workOut_70 rfl ?_
            refine r_isub hK d_Md_workOut_72 rfl ?_
            refine r_putI hK d_Md_workOut_73 f_Md_93 rfl (in_fix rfl) rfl rfl rfl rfl ?_
            refine r_goto (tgt := 161) hK d_Md_workOut_76 (by decide) ?_
            rw [u18]
            refine r_iinc hK d_Md_workOut_161 rfl (nI_1 _) rfl ?_
            refine r_goto (tgt := 12) hK d_Md_workOut_164 (by decide) ?_
            exact r_drop 4 hK ih2
          · have e3 : stepR 1 G (V, Mm) = (V - (Mm - Mm / nI 4 + G) / nI 2, Mm - Mm / nI 4 + G) := rfl
            rw [e3] at ih2
            refine r_iload hK d_Md_workOut_23 rfl ?_
            refine r_aload_n hK d_Md_workOut_25 rfl rfl ?_
            refine r_getI hK d_Md_workOut_26 f_Md_50 rfl (in_fix rfl) rfl rfl (hMt _ _).1.1 ?_
            refine rn_icmp_ge (tgt := 58) hK d_Md_workOut_29 (by decide) (by first | omega | (split <;> omega)) (by first | omega | (split <;> omega)) (fun _ => ?_) (fun hno => absurd hno (by omega))
            refine r_aload_n hK d_Md_workOut_58 rfl rfl ?_
            refine r_getI hK d_Md_workOut_59 f_Md_57 rfl (in_fix rfl) rfl rfl (hMt _ _).1.2.2.1 ?_
            refine rn_if_ne (tgt := 79) hK d_Md_workOut_62 (by decide) (by first | omega | (split <;> omega)) (fun _ => ?_) (fun hno => absurd hno (by omega))
            refine r_aload_n hK d_Md_workOut_79 rfl rfl ?_
            refine r_getI hK d_Md_workOut_80 f_Md_57 rfl (in_fix rfl) rfl rfl (hMt _ _).1.2.2.1 ?_
            refine r_iconst (v := nI 1) hK d_Md_workOut_83 (by decide) ?_
            refine rn_icmp_ne (tgt := 123) hK d_Md_workOut_84 (by decide) (by first | omega | (split <;> omega)) (by first | omega | (split <;> omega)) (fun hno => absurd hno (by omega)) (fun _ => ?_)
            refine r_aload_n hK d_Md_workOut_87 rfl rfl ?_
            refine r_aload_n hK d_Md_workOut_88 rfl rfl ?_
            refine r_getI hK d_Md_workOut_89 f_Md_96 rfl (in_fix rfl) rfl rfl (v19 _ _) ?_
            refine r_aload_n hK d_Md_workOut_92 rfl rfl ?_
            refine r_getI hK d_Md_workOut_93 f_Md_96 rfl (in_fix rfl) rfl rfl (v19 _ _) ?_
            refine r_iconst (v := nI 4) hK d_Md_workOut_96 (by decide) ?_
            refine r_idiv hK d_Md_workOut_97 (by decide) rfl ?_
            refine r_isub hK d_Md_workOut_98 rfl ?_
            refine r_iload hK d_Md_workOut_99 rfl ?_
            refine r_iadd hK d_Md_workOut_101 rfl ?_
            refine r_putI hK d_Md_workOut_102 f_Md_96 rfl (in_fix rfl) rfl rfl rfl rfl ?_
            refine r_aload_n hK d_Md_workOut_105 rfl rfl ?_
            refine r_aload_n hK d_Md_workOut_106 rfl rfl ?_
            refine r_getI hK d_Md_workOut_107 f_Md_93 rfl (in_fix rfl) rfl rfl (v := V) (by rw [up_same]; exact v18 _ _) ?_
            refine r_aload_n hK d_Md_workOut_110 rfl rfl ?_
            refine r_getI hK d_Md_workOut_111 f_Md_96 rfl (in_fix rfl) rfl rfl (v := Mm - Mm / nI 4 + G) (by rw [up_same]; exact v19 _ _) ?_
            refine r_iconst (v := nI 2) hK d_Md_workOut_114 (by decide) ?_
            refine r_idiv hK d_Md_workOut_115 (by decide) rfl ?_
            refine r_isub hK d_Md_workOut_116 rfl ?_
            refine r_putI hK d_Md_workOut_117 f_Md_93 rfl (in_fix rfl) rfl rfl rfl rfl ?_
            refine r_goto (tgt := 161) hK d_Md_workOut_120 (by decide) ?_
            rw [up_same, u18]
            refine r_iinc hK d_Md_workOut_161 rfl (nI_1 _) rfl ?_
            refine r_goto (tgt := 12) hK d_Md_workOut_164 (by decide) ?_
            exact r_drop 4 hK ih2
          · have hM3 := hM2 rfl
            have e3 : stepR 2 G (V, Mm) = (V - nI 64 * G / (nI 1 + nI (isq (Mm + G * G).toNatClampNeg)), Mm + G * G) := rfl
            rw [e3, hM3, nI_clamp (by omega)] at ih2
            have hq := isq_sq M
            have hq2 : isq M < 65536 := by
              apply Nat.not_le.mp
              intro q
              have := Nat.mul_le_mul q q
              omega
            refine r_iload hK d_Md_workOut_23 rfl ?_
            refine r_aload_n hK d_Md_workOut_25 rfl rfl ?_
            refine r_getI hK d_Md_workOut_26 f_Md_50 rfl (in_fix rfl) rfl rfl (hMt _ _).1.1 ?_
            refine rn_icmp_ge (tgt := 58) hK d_Md_workOut_29 (by decide) (by first | omega | (split <;> omega)) (by first | omega | (split <;> omega)) (fun _ => ?_) (fun hno => absurd hno (by omega))
            refine r_aload_n hK d_Md_workOut_58 rfl rfl ?_
            refine r_getI hK d_Md_workOut_59 f_Md_57 rfl (in_fix rfl) rfl rfl (hMt _ _).1.2.2.1 ?_
            refine rn_if_ne (tgt := 79) hK d_Md_workOut_62 (by decide) (by first | omega | (split <;> omega)) (fun _ => ?_) (fun hno => absurd hno (by omega))
            refine r_aload_n hK d_Md_workOut_79 rfl rfl ?_
            refine r_getI hK d_Md_workOut_80 f_Md_57 rfl (in_fix rfl) rfl rfl (hMt _ _).1.2.2.1 ?_
            refine r_iconst (v := nI 1) hK d_Md_workOut_83 (by decide) ?_
            refine rn_icmp_ne (tgt := 123) hK d_Md_workOut_84 (by decide) (by first | omega | (split <;> omega)) (by first | omega | (split <;> omega)) (fun _ => ?_) (fun hno => absurd hno (by omega))
            refine r_aload_n hK d_Md_workOut_123 rfl rfl ?_
            refine r_aload_n hK d_Md_workOut_124 rfl rfl ?_
            refine r_getI hK d_Md_workOut_125 f_Md_96 rfl (in_fix rfl) rfl rfl (v19 _ _) ?_
            refine r_iload hK d_Md_workOut_128 rfl ?_
            refine r_iload hK d_Md_workOut_130 rfl ?_
            refine r_imul hK d_Md_workOut_132 rfl ?_
            refine r_iadd hK d_Md_workOut_133 hM3 ?_
            refine r_putI hK d_Md_workOut_134 f_Md_96 rfl (in_fix rfl) rfl rfl rfl rfl ?_
            refine r_aload_n hK d_Md_workOut_137 rfl rfl ?_
            refine r_aload_n hK d_Md_workOut_138 rfl rfl ?_
            refine r_getI hK d_Md_workOut_139 f_Md_93 rfl (in_fix rfl) rfl rfl (v := V) (by rw [up_same]; exact v18 _ _) ?_
            refine r_bipush (v := nI 64) hK d_Md_workOut_142 (by decide) ?_
            refine r_iload hK d_Md_workOut_144 rfl ?_
            refine r_imul hK d_Md_workOut_146 rfl ?_
            refine r_iconst (v := nI 1) hK d_Md_workOut_147 (by decide) ?_
            refine r_aload_n hK d_Md_workOut_148 rfl rfl ?_
            refine r_getI hK d_Md_workOut_149 f_Md_96 rfl (in_fix rfl) rfl rfl (v := nI M) (by rw [up_same]; exact v19 _ _) ?_
            refine r_callSI hK d_Md_workOut_152 m_Md_103 (c_Md_root hg (by omega) hM1) (by decide) rfl rfl rfl ?_
            refine r_iadd hK d_Md_workOut_155 rfl ?_
            refine r_idiv hK d_Md_workOut_156 (by rw [nI_add]; exact nI_ne0 (by omega) (by omega)) rfl ?_
            refine r_isub hK d_Md_workOut_157 rfl ?_
            refine r_putI hK d_Md_workOut_158 f_Md_93 rfl (in_fix rfl) rfl rfl rfl rfl ?_
            rw [up_same, u18]
            refine r_iinc hK d_Md_workOut_161 rfl (nI_1 _) rfl ?_
            refine r_goto (tgt := 12) hK d_Md_workOut_164 (by decide) ?_
            exact r_drop 4 hK ih2
        | succ d ihi =>
          intro v hv
          refine r_iload hK d_Md_workOut_23 rfl ?_
          refine r_aload_n hK d_Md_workOut_25 rfl rfl ?_
          refine r_getI hK d_Md_workOut_26 f_Md_50 rfl (in_fix rfl) rfl rfl (hMt _ _).1.1 ?_
          refine rn_icmp_ge (tgt := 58) hK d_Md_workOut_29 (by decide) (by first | omega | (split <;> omega)) (by first | omega | (split <;> omega)) (fun hno => absurd hno (by omega)) (fun _ => ?_)
          refine r_aload_n hK d_Md_workOut_32 rfl rfl ?_
          refine r_iload hK d_Md_workOut_33 rfl ?_
          refine r_iload_n hK d_Md_workOut_35 rfl rfl ?_
          refine r_iload_n hK d_Md_workOut_36 rfl rfl ?_
          refine r_callVI hK d_Md_workOut_37 m_Md_99 rfl (in_fix rfl) (c_Md_contribution hg (hMt _ _) hA (by omega) hk (by omega)) (by decide) rfl rfl rfl ?_
          refine r_istore hK d_Md_workOut_40 rfl rfl ?_
          refine r_iload hK d_Md_workOut_42 rfl ?_
          refine r_iload hK d_Md_workOut_44 rfl ?_
          refine r_iadd hK d_Md_workOut_46 rfl ?_
          refine r_callSI hK d_Md_workOut_47 m_Md_90 (c_Md_narrow hg _) (by decide) rfl rfl rfl ?_
          refine r_istore hK d_Md_workOut_50 rfl rfl ?_
          refine r_iinc hK d_Md_workOut_52 rfl (nI_1 _) rfl ?_
          refine r_goto (tgt := 23) hK d_Md_workOut_55 (by decide) ?_
          exact r_drop 6 hK (ihi (v + 1) (by omega))
      refine r_iload_n hK d_Md_workOut_12 rfl rfl ?_
      refine r_iload_n hK d_Md_workOut_13 rfl rfl ?_
      refine rn_icmp_ge (tgt := 167) hK d_Md_workOut_14 (by decide) (by first | omega | (split <;> omega)) (by first | omega | (split <;> omega)) (fun hno => absurd hno (by omega)) (fun _ => ?_)
      refine r_iconst (v := nI 0) hK d_Md_workOut_17 (by decide) ?_
      refine r_istore hK d_Md_workOut_18 rfl rfl ?_
      refine r_iconst (v := nI 0) hK d_Md_workOut_20 (by decide) ?_
      refine r_istore hK d_Md_workOut_21 rfl rfl ?_
      exact hin w 0 (by omega)
  refine r_aload_n hK d_Md_workOut_0 rfl rfl ?_
  refine r_iconst (v := nI 0) hK d_Md_workOut_1 (by decide) ?_
  refine r_putI hK d_Md_workOut_2 f_Md_93 rfl (in_fix rfl) rfl rfl rfl rfl ?_
  refine r_aload_n hK d_Md_workOut_5 rfl rfl ?_
  refine r_iconst (v := nI 0) hK d_Md_workOut_6 (by decide) ?_
  refine r_putI hK d_Md_workOut_7 f_Md_96 rfl (in_fix rfl) rfl rfl rfl rfl ?_
  refine r_iconst (v := nI 0) hK d_Md_workOut_10 (by decide) ?_
  refine r_istore_n hK d_Md_workOut_11 rfl rfl rfl ?_
  exact hloop c 0 (by omega)
theorem c_Md_ready (hg : Gok g) (hM : MP w sl ru s σ) (hA : AI w N s) (hsl : sl ≤ 3) (i k : Int32) : CI l g y_Md_ready 2 [.ref (g.1 16 0), .int i, .int k] σ (nI (rdyB w sl s i k)) σ := by
  have hw := hA.1.2.1
  have hN := hA.1.2.2.1
  rcases bad_or w (by omega) i with hb | ⟨v, hv, rfl⟩
  · have hres : rdyB w sl s i k = 0 := if_pos (Or.inl hb)
    rw [hres]
    refine ofK hg w_cd_Md_ready (by decide) (by decide) (by first | decide | simp) (by simp [Value.category]) ?_
    intro K hK hR
    have hK : Gd l g "GradientShardsModel" b_Md_ready 3 _ K := hK
    refine r_aload_n hK d_Md_ready_0 rfl rfl ?_
    refine r_iload_n hK d_Md_ready_1 rfl rfl ?_
    refine r_callVI hK d_Md_ready_2 m_Md_70 rfl (in_fix rfl) (c_Md_isWorker_f hg hM.1.1 hb) (by decide) rfl rfl rfl ?_
    refine rn_if_eq (tgt := 53) hK d_Md_ready_5 (by decide) (by first | omega | (split <;> omega)) (fun _ => ?_) (fun hno => absurd hno (by omega))
    refine r_iconst (v := nI 0) hK d_Md_ready_53 (by decide) ?_
    exact hR.i d_Md_ready_54 rfl (⟨rfl, rfl⟩)
  · rcases bad_or 6 (by decide) k with hb2 | ⟨kk, hk, rfl⟩
    · have hres : rdyB w sl s (nI v) k = 0 := if_pos (Or.inr (Or.inl hb2))
      rw [hres]
      refine ofK hg w_cd_Md_ready (by decide) (by decide) (by first | decide | simp) (by simp [Value.category]) ?_
      intro K hK hR
      have hK : Gd l g "GradientShardsModel" b_Md_ready 3 _ K := hK
      refine r_aload_n hK d_Md_ready_0 rfl rfl ?_
      refine r_iload_n hK d_Md_ready_1 rfl rfl ?_
      refine r_callVI hK d_Md_ready_2 m_Md_70 rfl (in_fix rfl) (c_Md_isWorker_t hg hM.1.1 hv hw) (by decide) rfl rfl rfl ?_
      refine rn_if_eq (tgt := 53) hK d_Md_ready_5 (by decide) (by first | omega | (split <;> omega)) (fun hno => absurd hno (by omega)) (fun _ => ?_)
      refine r_iload_n hK d_Md_ready_8 rfl rfl ?_
      refine r_if_lt (tgt := 53) hK d_Md_ready_9 (by decide) (fun h1 => ?_) (fun h1 => ?_)
      · refine r_iconst (v := nI 0) hK d_Md_ready_53 (by decide) ?_
        exact hR.i d_Md_ready_54 rfl (⟨rfl, rfl⟩)
      · refine r_iload_n hK d_Md_ready_12 rfl rfl ?_
        refine r_iconst (v := nI 5) hK d_Md_ready_13 (by decide) ?_
        refine r_icmp_gt (tgt := 53) hK d_Md_ready_14 (by decide) (fun _ => ?_) (fun hno => absurd (Int32.lt_of_lt_of_le (by decide) (hb2.resolve_left h1)) hno)
        refine r_iconst (v := nI 0) hK d_Md_ready_53 (by decide) ?_
        exact hR.i d_Md_ready_54 rfl (⟨rfl, rfl⟩)
    · have hh : kk % 3 < 3 := Nat.mod_lt _ (by decide)
      have s24 := (hM.2.2.2.2.2.1 (kk % 3) hh).1
      have hd1 := (hA.2.2.2.1 (kk % 3) hh).1
      have hcv := hA.2.1 v hv
      have hgc := hM.2.1 v hv
      have e1 : rdyB w sl s (nI v) (nI kk) = if s.1 7 (kk % 3) 0 = 1 ∨ don w s.1 (kk % 3) + sl < s.1 0 v 0 then 0 else 1 := by
        unfold rdyB
        rw [nI_clamp (by omega), nI_clamp (by omega)]
        by_cases q : s.1 7 (kk % 3) 0 = 1 ∨ don w s.1 (kk % 3) + sl < s.1 0 v 0
        · rw [if_pos q, if_pos (Or.inr (Or.inr q))]
        · rw [if_neg q, if_neg (fun z => z.elim (ok_nI hv (by omega)) (fun z => z.elim (ok_nI hk (by decide)) q))]
      rw [e1]
      by_cases h7 : s.1 7 (kk % 3) 0 = 1
      · rw [if_pos (Or.inl h7)]
        refine ofK hg w_cd_Md_ready (by decide) (by decide) (by first | decide | simp) (by simp [Value.category]) ?_
        intro K hK hR
        have hK : Gd l g "GradientShardsModel" b_Md_ready 3 _ K := hK
        refine r_aload_n hK d_Md_ready_0 rfl rfl ?_
        refine r_iload_n hK d_Md_ready_1 rfl rfl ?_
        refine r_callVI hK d_Md_ready_2 m_Md_70 rfl (in_fix rfl) (c_Md_isWorker_t hg hM.1.1 hv hw) (by decide) rfl rfl rfl ?_
        refine rn_if_eq (tgt := 53) hK d_Md_ready_5 (by decide) (by first | omega | (split <;> omega)) (fun hno => absurd hno (by omega)) (fun _ => ?_)
        refine r_iload_n hK d_Md_ready_8 rfl rfl ?_
        refine r_if_lt (tgt := 53) hK d_Md_ready_9 (by decide) (fun hno => absurd hno (nI_pos (by omega))) (fun _ => ?_)
        refine r_iload_n hK d_Md_ready_12 rfl rfl ?_
        refine r_iconst (v := nI 5) hK d_Md_ready_13 (by decide) ?_
        refine rn_icmp_gt (tgt := 53) hK d_Md_ready_14 (by decide) (by first | omega | (split <;> omega)) (by first | omega | (split <;> omega)) (fun hno => absurd hno (by omega)) (fun _ => ?_)
        refine r_aload_n hK d_Md_ready_17 rfl rfl ?_
        refine r_getR hK d_Md_ready_18 f_Md_32 rfl (in_fix rfl) rfl rfl ?_
        refine r_iload_n hK d_Md_ready_21 rfl rfl ?_
        refine r_iconst (v := nI 3) hK d_Md_ready_22 (by decide) ?_
        refine r_irem hK d_Md_ready_23 (by decide) (pk_rem (by omega) (by decide) (by decide)) ?_
        refine r_zald hK d_Md_ready_24 rfl rfl (in_fix rfl) (ix_nI (j := kk % 3) (by omega)) hh s24 ?_
        refine rn_if_ne (tgt := 53) hK d_Md_ready_25 (by decide) (by first | omega | (split <;> omega)) (fun _ => ?_) (fun hno => absurd hno (by omega))
        refine r_iconst (v := nI 0) hK d_Md_ready_53 (by decide) ?_
        exact hR.i d_Md_ready_54 rfl (⟨rfl, rfl⟩)
      · have hdon : don w s.1 (kk % 3) ≤ 1000 := minF_le _ _ _
        by_cases hlt : don w s.1 (kk % 3) + sl < s.1 0 v 0
        · rw [if_pos (Or.inr hlt)]
          refine ofK hg w_cd_Md_ready (by decide) (by decide) (by first | decide | simp) (by simp [Value.category]) ?_
          intro K hK hR
          have hK : Gd l g "GradientShardsModel" b_Md_ready 3 _ K := hK
          refine r_aload_n hK d_Md_ready_0 rfl rfl ?_
          refine r_iload_n hK d_Md_ready_1 rfl rfl ?_
          refine r_callVI hK d_Md_ready_2 m_Md_70 rfl (in_fix rfl) (c_Md_isWorker_t hg hM.1.1 hv hw) (by decide) rfl rfl rfl ?_
          refine rn_if_eq (tgt := 53) hK d_Md_ready_5 (by decide) (by first | omega | (split <;> omega)) (fun hno => absurd hno (by omega)) (fun _ => ?_)
          refine r_iload_n hK d_Md_ready_8 rfl rfl ?_
          refine r_if_lt (tgt := 53) hK d_Md_ready_9 (by decide) (fun hno => absurd hno (nI_pos (by omega))) (fun _ => ?_)
          refine r_iload_n hK d_Md_ready_12 rfl rfl ?_
          refine r_iconst (v := nI 5) hK d_Md_ready_13 (by decide) ?_
          refine rn_icmp_gt (tgt := 53) hK d_Md_ready_14 (by decide) (by first | omega | (split <;> omega)) (by first | omega | (split <;> omega)) (fun hno => absurd hno (by omega)) (fun _ => ?_)
          refine r_aload_n hK d_Md_ready_17 rfl rfl ?_
          refine r_getR hK d_Md_ready_18 f_Md_32 rfl (in_fix rfl) rfl rfl ?_
          refine r_iload_n hK d_Md_ready_21 rfl rfl ?_
          refine r_iconst (v := nI 3) hK d_Md_ready_22 (by decide) ?_
          refine r_irem hK d_Md_ready_23 (by decide) (pk_rem (by omega) (by decide) (by decide)) ?_
          refine r_zald hK d_Md_ready_24 rfl rfl (in_fix rfl) (ix_nI (j := kk % 3) (by omega)) hh s24 ?_
          refine rn_if_ne (tgt := 53) hK d_Md_ready_25 (by decide) (by first | omega | (split <;> omega)) (fun hno => absurd hno (by omega)) (fun _ => ?_)
          refine r_aload_n hK d_Md_ready_28 rfl rfl ?_
          refine r_iload_n hK d_Md_ready_29 rfl rfl ?_
          refine r_iconst (v := nI 3) hK d_Md_ready_30 (by decide) ?_
          refine r_irem hK d_Md_ready_31 (by decide) (pk_rem (by omega) (by decide) (by decide)) ?_
          refine r_callVI hK d_Md_ready_32 m_Md_106 rfl (in_fix rfl) (c_Md_clocksDone hg hM hA hh) (by decide) rfl rfl rfl ?_
          refine r_aload_n hK d_Md_ready_35 rfl rfl ?_
          refine r_getR hK d_Md_ready_36 f_Md_7 rfl (in_fix rfl) rfl rfl ?_
          refine r_iload_n hK d_Md_ready_39 rfl rfl ?_
          refine r_iald hK d_Md_ready_40 rfl rfl (in_fix rfl) (ix_nI (j := v) (by omega)) (by show v < 4; omega) hgc ?_
          refine r_aload_n hK d_Md_ready_41 rfl rfl ?_
          refine r_getI hK d_Md_ready_42 f_Md_54 rfl (in_fix rfl) rfl rfl hM.1.2.1 ?_
          refine r_isub hK d_Md_ready_45 rfl ?_
          refine r_icmp_lt (tgt := 53) hK d_Md_ready_46 (by decide) (fun _ => ?_) (fun hno => absurd ((lt_subI (by omega) (by omega) (by omega)).mpr hlt) hno)
          refine r_iconst (v := nI 0) hK d_Md_ready_53 (by decide) ?_
          exact hR.i d_Md_ready_54 rfl (⟨rfl, rfl⟩)
        · rw [if_neg (fun z => z.elim h7 hlt)]
          refine ofK hg w_cd_Md_ready (by decide) (by decide) (by first | decide | simp) (by simp [Value.category]) ?_
          intro K hK hR
          have hK : Gd l g "GradientShardsModel" b_Md_ready 3 _ K := hK
          refine r_aload_n hK d_Md_ready_0 rfl rfl ?_
          refine r_iload_n hK d_Md_ready_1 rfl rfl ?_
          refine r_callVI hK d_Md_ready_2 m_Md_70 rfl (in_fix rfl) (c_Md_isWorker_t hg hM.1.1 hv hw) (by decide) rfl rfl rfl ?_
          refine rn_if_eq (tgt := 53) hK d_Md_ready_5 (by decide) (by first | omega | (split <;> omega)) (fun hno => absurd hno (by omega)) (fun _ => ?_)
          refine r_iload_n hK d_Md_ready_8 rfl rfl ?_
          refine r_if_lt (tgt := 53) hK d_Md_ready_9 (by decide) (fun hno => absurd hno (nI_pos (by omega))) (fun _ => ?_)
          refine r_iload_n hK d_Md_ready_12 rfl rfl ?_
          refine r_iconst (v := nI 5) hK d_Md_ready_13 (by decide) ?_
          refine rn_icmp_gt (tgt := 53) hK d_Md_ready_14 (by decide) (by first | omega | (split <;> omega)) (by first | omega | (split <;> omega)) (fun hno => absurd hno (by omega)) (fun _ => ?_)
          refine r_aload_n hK d_Md_ready_17 rfl rfl ?_
          refine r_getR hK d_Md_ready_18 f_Md_32 rfl (in_fix rfl) rfl rfl ?_
          refine r_iload_n hK d_Md_ready_21 rfl rfl ?_
          refine r_iconst (v := nI 3) hK d_Md_ready_22 (by decide) ?_
          refine r_irem hK d_Md_ready_23 (by decide) (pk_rem (by omega) (by decide) (by decide)) ?_
          refine r_zald hK d_Md_ready_24 rfl rfl (in_fix rfl) (ix_nI (j := kk % 3) (by omega)) hh s24 ?_
          refine rn_if_ne (tgt := 53) hK d_Md_ready_25 (by decide) (by first | omega | (split <;> omega)) (fun hno => absurd hno (by omega)) (fun _ => ?_)
          refine r_aload_n hK d_Md_ready_28 rfl rfl ?_
          refine r_iload_n hK d_Md_ready_29 rfl rfl ?_
          refine r_iconst (v := nI 3) hK d_Md_ready_30 (by decide) ?_
          refine r_irem hK d_Md_ready_31 (by decide) (pk_rem (by omega) (by decide) (by decide)) ?_
          refine r_callVI hK d_Md_ready_32 m_Md_106 rfl (in_fix rfl) (c_Md_clocksDone hg hM hA hh) (by decide) rfl rfl rfl ?_
          refine r_aload_n hK d_Md_ready_35 rfl rfl ?_
          refine r_getR hK d_Md_ready_36 f_Md_7 rfl (in_fix rfl) rfl rfl ?_
          refine r_iload_n hK d_Md_ready_39 rfl rfl ?_
          refine r_iald hK d_Md_ready_40 rfl rfl (in_fix rfl) (ix_nI (j := v) (by omega)) (by show v < 4; omega) hgc ?_
          refine r_aload_n hK d_Md_ready_41 rfl rfl ?_
          refine r_getI hK d_Md_ready_42 f_Md_54 rfl (in_fix rfl) rfl rfl hM.1.2.1 ?_
          refine r_isub hK d_Md_ready_45 rfl ?_
          refine r_icmp_lt (tgt := 53) hK d_Md_ready_46 (by decide) (fun hno => absurd hno (fun z => hlt ((lt_subI (by omega) (by omega) (by omega)).mp z))) (fun _ => ?_)
          refine r_iconst (v := nI 1) hK d_Md_ready_49 (by decide) ?_
          refine r_goto (tgt := 54) hK d_Md_ready_50 (by decide) ?_
          exact hR.i d_Md_ready_54 rfl (⟨rfl, rfl⟩)
theorem c_Md_pull (hg : Gok g) (hM : MP w sl ru s σ) (hA : AI w N s) (hsl : sl ≤ 3) (hru : ru ≤ 2) (i k : Int32) : Ct l g y_Md_pull 3 [.ref (g.1 16 0), .int i, .int k] σ (PM w sl ru (pulR w sl ru s i k) σ) := by
  have hrd := c_Md_ready (l := l) hg hM hA hsl i k
  by_cases hr : rdyB w sl s i k = 1
  · have hres : pulR w sl ru s i k = (s, (wko ru w s.1 k.toNatClampNeg (don w s.1 (k.toNatClampNeg % 3))).1) := by unfold pulR; rw [if_pos hr]
    have hnb : ¬ (bad w i ∨ bad 6 k ∨ s.1 7 (k.toNatClampNeg % 3) 0 = 1 ∨ don w s.1 (k.toNatClampNeg % 3) + sl < s.1 0 i.toNatClampNeg 0) := fun q => by
      unfold rdyB at hr
      rw [if_pos q] at hr
      cases hr
    rw [hr] at hrd
    rcases bad_or 6 (by decide) k with hb2 | ⟨kk, hk, rfl⟩
    · exact absurd (Or.inr (Or.inl hb2)) hnb
    · rw [hres]
      rw [nI_clamp (by omega)] at hnb ⊢
      have hh : kk % 3 < 3 := Nat.mod_lt _ (by decide)
      have hdon : don w s.1 (kk % 3) ≤ 1000 := minF_le _ _ _
      refine ofK hg w_cd_Md_pull (by decide) (by decide) (by first | decide | simp) (by simp [Value.category]) ?_
      intro K hK hR
      have hK : Gd l g "GradientShardsModel" b_Md_pull 4 _ K := hK
      refine r_aload_n hK d_Md_pull_0 rfl rfl ?_
      refine r_iload_n hK d_Md_pull_1 rfl rfl ?_
      refine r_iload_n hK d_Md_pull_2 rfl rfl ?_
      refine r_callVI hK d_Md_pull_3 m_Md_109 rfl (in_fix rfl) (hrd) (by decide) rfl rfl rfl ?_
      refine rn_if_ne (tgt := 11) hK d_Md_pull_6 (by decide) (by first | omega | (split <;> omega)) (fun _ => ?_) (fun hno => absurd hno (by omega))
      refine r_aload_n hK d_Md_pull_11 rfl rfl ?_
      refine r_iload_n hK d_Md_pull_12 rfl rfl ?_
      refine r_iconst (v := nI 3) hK d_Md_pull_13 (by decide) ?_
      refine r_irem hK d_Md_pull_14 (by decide) (pk_rem (by omega) (by decide) (by decide)) ?_
      refine r_callVI hK d_Md_pull_15 m_Md_106 rfl (in_fix rfl) (c_Md_clocksDone hg hM hA hh) (by decide) rfl rfl rfl ?_
      refine r_istore_n hK d_Md_pull_18 rfl rfl rfl ?_
      refine r_aload_n hK d_Md_pull_19 rfl rfl ?_
      refine r_iload_n hK d_Md_pull_20 rfl rfl ?_
      refine r_iload_n hK d_Md_pull_21 rfl rfl ?_
      refine r_callVV hK d_Md_pull_22 m_Md_113 rfl (in_fix rfl) (c_Md_workOut hg hM hA hru hk hdon) (by decide) rfl rfl rfl ?_
      refine r_aload_n hK d_Md_pull_25 rfl rfl ?_
      refine r_getI hK d_Md_pull_26 f_Md_93 rfl (in_fix rfl) rfl rfl (v := (wko ru w s.1 kk (don w s.1 (kk % 3))).1) (by simp [up_eq]) ?_
      exact hR.i d_Md_pull_29 rfl (⟨rfl, MP_16 (MP_16 hM (by omega) (by omega)) (by omega) (by omega), fun k hk => by rw [up_k (by omega), up_k (by omega)]⟩)
  · have hr0 : rdyB w sl s i k = 0 := by
      unfold rdyB at hr ⊢
      split at hr
      · rw [if_pos (by assumption)]
      · exact absurd rfl hr
    have hres : pulR w sl ru s i k = (s, nI 0) := by unfold pulR; rw [if_neg hr]
    rw [hr0] at hrd
    rw [hres]
    refine ofK hg w_cd_Md_pull (by decide) (by decide) (by first | decide | simp) (by simp [Value.category]) ?_
    intro K hK hR
    have hK : Gd l g "GradientShardsModel" b_Md_pull 4 _ K := hK
    refine r_aload_n hK d_Md_pull_0 rfl rfl ?_
    refine r_iload_n hK d_Md_pull_1 rfl rfl ?_
    refine r_iload_n hK d_Md_pull_2 rfl rfl ?_
    refine r_callVI hK d_Md_pull_3 m_Md_109 rfl (in_fix rfl) (hrd) (by decide) rfl rfl rfl ?_
    refine rn_if_ne (tgt := 11) hK d_Md_pull_6 (by decide) (by first | omega | (split <;> omega)) (fun hno => absurd hno (by omega)) (fun _ => ?_)
    refine r_iconst (v := nI 0) hK d_Md_pull_9 (by decide) ?_
    exact hR.i d_Md_pull_10 rfl (⟨rfl, hM, fun _ _ => rfl⟩)
theorem c_Md_clock (hg : Gok g) (hM : MP w sl ru s σ) (hA : AI w N s) (i : Int32) : Ct l g y_Md_clock 1 [.ref (g.1 16 0), .int i] σ (PM w sl ru (clkR w s i) σ) := by
  have hw := hA.1.2.1
  rcases bad_or w (by omega) i with hb | ⟨v, hv, rfl⟩
  · have hres : clkR w s i = (s, -1) := by unfold clkR; rw [if_pos hb]
    rw [hres]
    refine ofK hg w_cd_Md_clock (by decide) (by decide) (by first | decide | simp) (by simp [Value.category]) ?_
    intro K hK hR
    have hK : Gd l g "GradientShardsModel" b_Md_clock 2 _ K := hK
    refine r_aload_n hK d_Md_clock_0 rfl rfl ?_
    refine r_iload_n hK d_Md_clock_1 rfl rfl ?_
    refine r_callVI hK d_Md_clock_2 m_Md_70 rfl (in_fix rfl) (c_Md_isWorker_f hg hM.1.1 hb) (by decide) rfl rfl rfl ?_
    refine rn_if_eq (tgt := 17) hK d_Md_clock_5 (by decide) (by first | omega | (split <;> omega)) (fun _ => ?_) (fun hno => absurd hno (by omega))
    refine r_iconst (v := -1) hK d_Md_clock_17 (by decide) ?_
    exact hR.i d_Md_clock_18 rfl (⟨rfl, hM, fun _ _ => rfl⟩)
  · have hres : clkR w s (nI v) = (s, nI (s.1 0 v 0)) := by unfold clkR; rw [if_neg (ok_nI hv (by omega)), nI_clamp (by omega)]
    rw [hres]
    refine ofK hg w_cd_Md_clock (by decide) (by decide) (by first | decide | simp) (by simp [Value.category]) ?_
    intro K hK hR
    have hK : Gd l g "GradientShardsModel" b_Md_clock 2 _ K := hK
    refine r_aload_n hK d_Md_clock_0 rfl rfl ?_
    refine r_iload_n hK d_Md_clock_1 rfl rfl ?_
    refine r_callVI hK d_Md_clock_2 m_Md_70 rfl (in_fix rfl) (c_Md_isWorker_t hg hM.1.1 hv hw) (by decide) rfl rfl rfl ?_
    refine rn_if_eq (tgt := 17) hK d_Md_clock_5 (by decide) (by first | omega | (split <;> omega)) (fun hno => absurd hno (by omega)) (fun _ => ?_)
    refine r_aload_n hK d_Md_clock_8 rfl rfl ?_
    refine r_getR hK d_Md_clock_9 f_Md_7 rfl (in_fix rfl) rfl rfl ?_
    refine r_iload_n hK d_Md_clock_12 rfl rfl ?_
    refine r_iald hK d_Md_clock_13 rfl rfl (in_fix rfl) (ix_nI (j := v) (by omega)) (by show v < 4; omega) (hM.2.1 v hv) ?_
    refine r_goto (tgt := 18) hK d_Md_clock_14 (by decide) ?_
    exact hR.i d_Md_clock_18 rfl (⟨rfl, hM, fun _ _ => rfl⟩)
def mkM (σ : Sg) (x n t c : Nat) (m : Int32) : Sg := sdM (up (up (up σ 21 0 (512 * x + n) m) 23 0 (32 * x + n % 32) (nI t)) 18 0 x (nI (n + 1))) c (nI 0) (nI x) (nI n)
theorem c_Md_make (hg : Gok g) {x n t c : Nat} {m : Int32} (hx : x < 12) (hn : n < 512) (h18 : σ 18 0 x = nI n) (h3 : σ 16 0 3 = nI t) (hh : σ 16 0 14 = nI c) (hc : c ≤ 24) : CV l g y_Md_make 1 [.ref (g.1 16 0), .int (nI x), .int m] σ (mkM σ x n t c m) := by
  refine ofK hg w_cd_Md_make (by decide) (by decide) (by first | decide | simp) (by simp [Value.category]) ?_
  intro K hK hR
  have hK : Gd l g "GradientShardsModel" b_Md_make 4 _ K := hK
  refine r_aload_n hK d_Md_make_0 rfl rfl ?_
  refine r_getR hK d_Md_make_1 f_Md_13 rfl (in_fix rfl) rfl rfl ?_
  refine r_iload_n hK d_Md_make_4 rfl rfl ?_
  refine r_iald hK d_Md_make_5 rfl rfl (in_fix rfl) (ix_nI (j := x) (by omega)) hx h18 ?_
  refine r_istore_n hK d_Md_make_6 rfl rfl rfl ?_
  refine r_aload_n hK d_Md_make_7 rfl rfl ?_
  refine r_getR hK d_Md_make_8 f_Md_22 rfl (in_fix rfl) rfl rfl ?_
  refine r_sipush (v := nI 512) hK d_Md_make_11 (by decide) ?_
  refine r_iload_n hK d_Md_make_14 rfl rfl ?_
  refine r_imul hK d_Md_make_15 (pk_mul _ _) ?_
  refine r_iload_n hK d_Md_make_16 rfl rfl ?_
  refine r_iadd hK d_Md_make_17 (nI_add _ _) ?_
  refine r_iload_n hK d_Md_make_18 rfl rfl ?_
  refine r_iast hK d_Md_make_19 rfl rfl (in_fix rfl) (ix_nI (j := 512 * x + n) (by omega)) (by show 512 * x + n < 6144; omega) ?_
  refine r_aload_n hK d_Md_make_20 rfl rfl ?_
  refine r_getR hK d_Md_make_21 f_Md_29 rfl (in_fix rfl) rfl rfl ?_
  refine r_bipush (v := nI 32) hK d_Md_make_24 (by decide) ?_
  refine r_iload_n hK d_Md_make_26 rfl rfl ?_
  refine r_imul hK d_Md_make_27 (pk_mul _ _) ?_
  refine r_iload_n hK d_Md_make_28 rfl rfl ?_
  refine r_bipush (v := nI 32) hK d_Md_make_29 (by decide) ?_
  refine r_irem hK d_Md_make_31 (by decide) (pk_rem (by omega) (by decide) (by decide)) ?_
  refine r_iadd hK d_Md_make_32 (nI_add _ _) ?_
  refine r_aload_n hK d_Md_make_33 rfl rfl ?_
  refine r_getI hK d_Md_make_34 f_Md_63 rfl (in_fix rfl) rfl rfl (v := nI t) (by rw [up_k (by decide)]; exact h3) ?_
  refine r_iast hK d_Md_make_37 rfl rfl (in_fix rfl) (ix_nI (j := 32 * x + n % 32) (by omega)) (by show 32 * x + n % 32 < 384; omega) ?_
  refine r_aload_n hK d_Md_make_38 rfl rfl ?_
  refine r_getR hK d_Md_make_39 f_Md_13 rfl (in_fix rfl) rfl rfl ?_
  refine r_iload_n hK d_Md_make_42 rfl rfl ?_
  refine r_iload_n hK d_Md_make_43 rfl rfl ?_
  refine r_iconst (v := nI 1) hK d_Md_make_44 (by decide) ?_
  refine r_iadd hK d_Md_make_45 (nI_add _ _) ?_
  refine r_iast hK d_Md_make_46 rfl rfl (in_fix rfl) (ix_nI (j := x) (by omega)) hx ?_
  refine r_aload_n hK d_Md_make_47 rfl rfl ?_
  refine r_iconst (v := nI 0) hK d_Md_make_48 (by decide) ?_
  refine r_iload_n hK d_Md_make_49 rfl rfl ?_
  refine r_iload_n hK d_Md_make_50 rfl rfl ?_
  refine r_callVV hK d_Md_make_51 m_Md_66 rfl (in_fix rfl) (c_Md_send hg (n := c) (b := 0) (by rw [up_k (by decide), up_k (by decide), up_k (by decide)]; exact hh) hc (by decide)) (by decide) rfl rfl rfl ?_
  exact hR.v d_Md_make_54 (⟨rfl, rfl⟩)
theorem MP_mkm {x m : Nat} (hM : MP w sl ru s σ) (hA : AI w N s) (hx : x < 3 * w) (hn : s.1 1 x 0 < 512) : MP w sl ru (mkm s x m) (mkM σ x (s.1 1 x 0) (s.1 12 0 0) s.2.length (nI m)) := by
  have hw := hA.1.2.1
  have h1 := MP_4 (i := x) (j := s.1 1 x 0) (v := m) hM hn
  have h2 := MP_6 (i := x) (j := s.1 1 x 0 % 32) (v := s.1 12 0 0) h1 (Nat.mod_lt _ (by decide))
  have h3 := MP_1 (i := x) (v := s.1 1 x 0 + 1) h2
  have h4 := MP_snd (c := cod 0 x (s.1 1 x 0)) h3
  obtain ⟨c1, c2, c3, c4, c5⟩ := cod_k (k := 0) (l := x) (n := s.1 1 x 0) (by decide) (by omega)
  rw [c1, c4, c5] at h4
  exact h4
theorem mkM_k {x n t c : Nat} {m : Int32} {k : Nat} (h : k < 16) : mkM σ x n t c m k = σ k := by
  unfold mkM
  rw [sdM_k h, up_k (by omega), up_k (by omega), up_k (by omega)]
theorem c_Md_add (hg : Gok g) (hM : MP w sl ru s σ) (hA : AI w N s) (hsl : sl ≤ 3) (hmk : ∀ l, l < 3 * w → s.1 1 l 0 < 512) (i k q : Int32) : Ct l g y_Md_add 2 [.ref (g.1 16 0), .int i, .int k, .int q] σ (PM w sl ru (addR w sl s i k q) σ) := by
  have hw := hA.1.2.1
  have hN := hA.1.2.2.1
  rcases bad_or w (by omega) i with hb | ⟨v, hv, rfl⟩
  · have hres : addR w sl s i k q = (s, nI 0) := if_pos (Or.inl hb)
    rw [hres]
    refine ofK hg w_cd_Md_add (by decide) (by decide) (by first | decide | simp) (by simp [Value.category]) ?_
    intro K hK hR
    have hK : Gd l g "GradientShardsModel" b_Md_add 5 _ K := hK
    refine r_aload_n hK d_Md_add_0 rfl rfl ?_
    refine r_iload_n hK d_Md_add_1 rfl rfl ?_
    refine r_callVI hK d_Md_add_2 m_Md_70 rfl (in_fix rfl) (c_Md_isWorker_f hg hM.1.1 hb) (by decide) rfl rfl rfl ?_
    refine rn_if_eq (tgt := 37) hK d_Md_add_5 (by decide) (by first | omega | (split <;> omega)) (fun _ => ?_) (fun hno => absurd hno (by omega))
    refine r_iconst (v := nI 0) hK d_Md_add_37 (by decide) ?_
    exact hR.i d_Md_add_38 rfl (⟨rfl, hM, fun _ _ => rfl⟩)
  · rcases bad_or 6 (by decide) k with hb2 | ⟨kk, hk, rfl⟩
    · have hres : addR w sl s (nI v) k q = (s, nI 0) := if_pos (Or.inr (Or.inl hb2))
      rw [hres]
      refine ofK hg w_cd_Md_add (by decide) (by decide) (by first | decide | simp) (by simp [Value.category]) ?_
      intro K hK hR
      have hK : Gd l g "GradientShardsModel" b_Md_add 5 _ K := hK
      refine r_aload_n hK d_Md_add_0 rfl rfl ?_
      refine r_iload_n hK d_Md_add_1 rfl rfl ?_
      refine r_callVI hK d_Md_add_2 m_Md_70 rfl (in_fix rfl) (c_Md_isWorker_t hg hM.1.1 hv hw) (by decide) rfl rfl rfl ?_
      refine rn_if_eq (tgt := 37) hK d_Md_add_5 (by decide) (by first | omega | (split <;> omega)) (fun hno => absurd hno (by omega)) (fun _ => ?_)
      refine r_iload_n hK d_Md_add_8 rfl rfl ?_
      refine r_if_lt (tgt := 37) hK d_Md_add_9 (by decide) (fun h1 => ?_) (fun h1 => ?_)
      · refine r_iconst (v := nI 0) hK d_Md_add_37 (by decide) ?_
        exact hR.i d_Md_add_38 rfl (⟨rfl, hM, fun _ _ => rfl⟩)
      · refine r_iload_n hK d_Md_add_12 rfl rfl ?_
        refine r_iconst (v := nI 5) hK d_Md_add_13 (by decide) ?_
        refine r_icmp_gt (tgt := 37) hK d_Md_add_14 (by decide) (fun _ => ?_) (fun hno => absurd (Int32.lt_of_lt_of_le (by decide) (hb2.resolve_left h1)) hno)
        refine r_iconst (v := nI 0) hK d_Md_add_37 (by decide) ?_
        exact hR.i d_Md_add_38 rfl (⟨rfl, hM, fun _ _ => rfl⟩)
    · by_cases hq1 : q < -99
      · have hres : addR w sl s (nI v) (nI kk) q = (s, nI 0) := if_pos (Or.inr (Or.inr (Or.inl hq1)))
        rw [hres]
        refine ofK hg w_cd_Md_add (by decide) (by decide) (by first | decide | simp) (by simp [Value.category]) ?_
        intro K hK hR
        have hK : Gd l g "GradientShardsModel" b_Md_add 5 _ K := hK
        refine r_aload_n hK d_Md_add_0 rfl rfl ?_
        refine r_iload_n hK d_Md_add_1 rfl rfl ?_
        refine r_callVI hK d_Md_add_2 m_Md_70 rfl (in_fix rfl) (c_Md_isWorker_t hg hM.1.1 hv hw) (by decide) rfl rfl rfl ?_
        refine rn_if_eq (tgt := 37) hK d_Md_add_5 (by decide) (by first | omega | (split <;> omega)) (fun hno => absurd hno (by omega)) (fun _ => ?_)
        refine r_iload_n hK d_Md_add_8 rfl rfl ?_
        refine r_if_lt (tgt := 37) hK d_Md_add_9 (by decide) (fun hno => absurd hno (nI_pos (by omega))) (fun _ => ?_)
        refine r_iload_n hK d_Md_add_12 rfl rfl ?_
        refine r_iconst (v := nI 5) hK d_Md_add_13 (by decide) ?_
        refine rn_icmp_gt (tgt := 37) hK d_Md_add_14 (by decide) (by first | omega | (split <;> omega)) (by first | omega | (split <;> omega)) (fun hno => absurd hno (by omega)) (fun _ => ?_)
        refine r_iload_n hK d_Md_add_17 rfl rfl ?_
        refine r_bipush (v := -99) hK d_Md_add_18 (by decide) ?_
        refine r_icmp_lt (tgt := 37) hK d_Md_add_20 (by decide) (fun _ => ?_) (fun hno => absurd (hq1) hno)
        refine r_iconst (v := nI 0) hK d_Md_add_37 (by decide) ?_
        exact hR.i d_Md_add_38 rfl (⟨rfl, hM, fun _ _ => rfl⟩)
      · by_cases hq2 : nI 99 < q
        · have hres : addR w sl s (nI v) (nI kk) q = (s, nI 0) := if_pos (Or.inr (Or.inr (Or.inr (Or.inl hq2))))
          rw [hres]
          refine ofK hg w_cd_Md_add (by decide) (by decide) (by first | decide | simp) (by simp [Value.category]) ?_
          intro K hK hR
          have hK : Gd l g "GradientShardsModel" b_Md_add 5 _ K := hK
          refine r_aload_n hK d_Md_add_0 rfl rfl ?_
          refine r_iload_n hK d_Md_add_1 rfl rfl ?_
          refine r_callVI hK d_Md_add_2 m_Md_70 rfl (in_fix rfl) (c_Md_isWorker_t hg hM.1.1 hv hw) (by decide) rfl rfl rfl ?_
          refine rn_if_eq (tgt := 37) hK d_Md_add_5 (by decide) (by first | omega | (split <;> omega)) (fun hno => absurd hno (by omega)) (fun _ => ?_)
          refine r_iload_n hK d_Md_add_8 rfl rfl ?_
          refine r_if_lt (tgt := 37) hK d_Md_add_9 (by decide) (fun hno => absurd hno (nI_pos (by omega))) (fun _ => ?_)
          refine r_iload_n hK d_Md_add_12 rfl rfl ?_
          refine r_iconst (v := nI 5) hK d_Md_add_13 (by decide) ?_
          refine rn_icmp_gt (tgt := 37) hK d_Md_add_14 (by decide) (by first | omega | (split <;> omega)) (by first | omega | (split <;> omega)) (fun hno => absurd hno (by omega)) (fun _ => ?_)
          refine r_iload_n hK d_Md_add_17 rfl rfl ?_
          refine r_bipush (v := -99) hK d_Md_add_18 (by decide) ?_
          refine r_icmp_lt (tgt := 37) hK d_Md_add_20 (by decide) (fun hno => absurd hno (hq1)) (fun _ => ?_)
          refine r_iload_n hK d_Md_add_23 rfl rfl ?_
          refine r_bipush (v := nI 99) hK d_Md_add_24 (by decide) ?_
          refine r_icmp_gt (tgt := 37) hK d_Md_add_26 (by decide) (fun _ => ?_) (fun hno => absurd (hq2) hno)
          refine r_iconst (v := nI 0) hK d_Md_add_37 (by decide) ?_
          exact hR.i d_Md_add_38 rfl (⟨rfl, hM, fun _ _ => rfl⟩)
        · have hheld := c_Md_waits (l := l) (c := fun v => s.1 0 v 0) hg hM.1.1 hM.1.2.1 (by omega) hv hw hM.2.1 (fun j hj => by have := hA.2.1 j hj; show s.1 0 j 0 < _; omega)
          by_cases hwt : wtd w sl s.1 v
          · have hres : addR w sl s (nI v) (nI kk) q = (s, nI 0) := if_pos (Or.inr (Or.inr (Or.inr (Or.inr (Or.inl (by rw [nI_clamp (by omega)]; exact hwt))))))
            rw [hres]
            rw [if_pos hwt] at hheld
            refine ofK hg w_cd_Md_add (by decide) (by decide) (by first | decide | simp) (by simp [Value.category]) ?_
            intro K hK hR
            have hK : Gd l g "GradientShardsModel" b_Md_add 5 _ K := hK
            refine r_aload_n hK d_Md_add_0 rfl rfl ?_
            refine r_iload_n hK d_Md_add_1 rfl rfl ?_
            refine r_callVI hK d_Md_add_2 m_Md_70 rfl (in_fix rfl) (c_Md_isWorker_t hg hM.1.1 hv hw) (by decide) rfl rfl rfl ?_
            refine rn_if_eq (tgt := 37) hK d_Md_add_5 (by decide) (by first | omega | (split <;> omega)) (fun hno => absurd hno (by omega)) (fun _ => ?_)
            refine r_iload_n hK d_Md_add_8 rfl rfl ?_
            refine r_if_lt (tgt := 37) hK d_Md_add_9 (by decide) (fun hno => absurd hno (nI_pos (by omega))) (fun _ => ?_)
            refine r_iload_n hK d_Md_add_12 rfl rfl ?_
            refine r_iconst (v := nI 5) hK d_Md_add_13 (by decide) ?_
            refine rn_icmp_gt (tgt := 37) hK d_Md_add_14 (by decide) (by first | omega | (split <;> omega)) (by first | omega | (split <;> omega)) (fun hno => absurd hno (by omega)) (fun _ => ?_)
            refine r_iload_n hK d_Md_add_17 rfl rfl ?_
            refine r_bipush (v := -99) hK d_Md_add_18 (by decide) ?_
            refine r_icmp_lt (tgt := 37) hK d_Md_add_20 (by decide) (fun hno => absurd hno (hq1)) (fun _ => ?_)
            refine r_iload_n hK d_Md_add_23 rfl rfl ?_
            refine r_bipush (v := nI 99) hK d_Md_add_24 (by decide) ?_
            refine r_icmp_gt (tgt := 37) hK d_Md_add_26 (by decide) (fun hno => absurd hno (hq2)) (fun _ => ?_)
            refine r_aload_n hK d_Md_add_29 rfl rfl ?_
            refine r_iload_n hK d_Md_add_30 rfl rfl ?_
            refine r_callVI hK d_Md_add_31 m_Md_74 rfl (in_fix rfl) (hheld) (by decide) rfl rfl rfl ?_
            refine rn_if_eq (tgt := 39) hK d_Md_add_34 (by decide) (by first | omega | (split <;> omega)) (fun hno => absurd hno (by omega)) (fun _ => ?_)
            refine r_iconst (v := nI 0) hK d_Md_add_37 (by decide) ?_
            exact hR.i d_Md_add_38 rfl (⟨rfl, hM, fun _ _ => rfl⟩)
          · rw [if_neg hwt] at hheld
            have hlk : 3 * v + kk % 3 < 3 * w := by omega
            obtain ⟨p18, p19, -⟩ := hM.2.2.1 (3 * v + kk % 3) hlk
            obtain ⟨l1, l2, l3, l4, -⟩ := hA.2.2.1 (3 * v + kk % 3) hlk
            by_cases hkq : 20 ≤ keq s (3 * v + kk % 3)
            · have hres : addR w sl s (nI v) (nI kk) q = (s, nI 0) := if_pos (Or.inr (Or.inr (Or.inr (Or.inr (Or.inr (by rw [nI_clamp (by omega), nI_clamp (by omega)]; exact hkq))))))
              rw [hres]
              unfold keq at hkq
              refine ofK hg w_cd_Md_add (by decide) (by decide) (by first | decide | simp) (by simp [Value.category]) ?_
              intro K hK hR
              have hK : Gd l g "GradientShardsModel" b_Md_add 5 _ K := hK
              refine r_aload_n hK d_Md_add_0 rfl rfl ?_
              refine r_iload_n hK d_Md_add_1 rfl rfl ?_
              refine r_callVI hK d_Md_add_2 m_Md_70 rfl (in_fix rfl) (c_Md_isWorker_t hg hM.1.1 hv hw) (by decide) rfl rfl rfl ?_
              refine rn_if_eq (tgt := 37) hK d_Md_add_5 (by decide) (by first | omega | (split <;> omega)) (fun hno => absurd hno (by omega)) (fun _ => ?_)
              refine r_iload_n hK d_Md_add_8 rfl rfl ?_
              refine r_if_lt (tgt := 37) hK d_Md_add_9 (by decide) (fun hno => absurd hno (nI_pos (by omega))) (fun _ => ?_)
              refine r_iload_n hK d_Md_add_12 rfl rfl ?_
              refine r_iconst (v := nI 5) hK d_Md_add_13 (by decide) ?_
              refine rn_icmp_gt (tgt := 37) hK d_Md_add_14 (by decide) (by first | omega | (split <;> omega)) (by first | omega | (split <;> omega)) (fun hno => absurd hno (by omega)) (fun _ => ?_)
              refine r_iload_n hK d_Md_add_17 rfl rfl ?_
              refine r_bipush (v := -99) hK d_Md_add_18 (by decide) ?_
              refine r_icmp_lt (tgt := 37) hK d_Md_add_20 (by decide) (fun hno => absurd hno (hq1)) (fun _ => ?_)
              refine r_iload_n hK d_Md_add_23 rfl rfl ?_
              refine r_bipush (v := nI 99) hK d_Md_add_24 (by decide) ?_
              refine r_icmp_gt (tgt := 37) hK d_Md_add_26 (by decide) (fun hno => absurd hno (hq2)) (fun _ => ?_)
              refine r_aload_n hK d_Md_add_29 rfl rfl ?_
              refine r_iload_n hK d_Md_add_30 rfl rfl ?_
              refine r_callVI hK d_Md_add_31 m_Md_74 rfl (in_fix rfl) (hheld) (by decide) rfl rfl rfl ?_
              refine rn_if_eq (tgt := 39) hK d_Md_add_34 (by decide) (by first | omega | (split <;> omega)) (fun _ => ?_) (fun hno => absurd hno (by omega))
              refine r_iconst (v := nI 3) hK d_Md_add_39 (by decide) ?_
              refine r_iload_n hK d_Md_add_40 rfl rfl ?_
              refine r_imul hK d_Md_add_41 (pk_mul _ _) ?_
              refine r_iload_n hK d_Md_add_42 rfl rfl ?_
              refine r_iconst (v := nI 3) hK d_Md_add_43 (by decide) ?_
              refine r_irem hK d_Md_add_44 (by decide) (pk_rem (by omega) (by decide) (by decide)) ?_
              refine r_iadd hK d_Md_add_45 (nI_add _ _) ?_
              refine r_istore hK d_Md_add_46 rfl rfl ?_
              refine r_aload_n hK d_Md_add_48 rfl rfl ?_
              refine r_getR hK d_Md_add_49 f_Md_13 rfl (in_fix rfl) rfl rfl ?_
              refine r_iload hK d_Md_add_52 rfl ?_
              refine r_iald hK d_Md_add_54 rfl rfl (in_fix rfl) (ix_nI (j := 3 * v + kk % 3) (by omega)) (by show 3 * v + kk % 3 < 12; omega) p18 ?_
              refine r_aload_n hK d_Md_add_55 rfl rfl ?_
              refine r_getR hK d_Md_add_56 f_Md_16 rfl (in_fix rfl) rfl rfl ?_
              refine r_iload hK d_Md_add_59 rfl ?_
              refine r_iald hK d_Md_add_61 rfl rfl (in_fix rfl) (ix_nI (j := 3 * v + kk % 3) (by omega)) (by show 3 * v + kk % 3 < 12; omega) p19 ?_
              refine r_isub hK d_Md_add_62 (pk_sub (by omega)) ?_
              refine r_bipush (v := nI 20) hK d_Md_add_63 (by decide) ?_
              refine rn_icmp_lt (tgt := 70) hK d_Md_add_65 (by decide) (by first | omega | (split <;> omega)) (by first | omega | (split <;> omega)) (fun hno => absurd hno (by omega)) (fun _ => ?_)
              refine r_iconst (v := nI 0) hK d_Md_add_68 (by decide) ?_
              exact hR.i d_Md_add_69 rfl (⟨rfl, hM, fun _ _ => rfl⟩)
            · obtain ⟨j, hj1, hj2, hj3, hj4⟩ := g_of hq1 hq2
              have hres : addR w sl s (nI v) (nI kk) q = (mkm s (3 * v + kk % 3) (1000 * kk + j), nI 1) := by
                unfold addR
                rw [nI_clamp (by omega), nI_clamp (by omega), hj4, nI_clamp (by omega), if_neg (fun z => by
                  rcases z with z | z | z | z | z | z
                  · exact ok_nI hv (by omega) z
                  · exact ok_nI hk (by decide) z
                  · exact hq1 z
                  · exact hq2 z
                  · exact hwt z
                  · exact hkq z)]
              rw [hres]
              unfold keq at hkq
              have hadd : nI (1000 * kk + 100) + q = nI (1000 * kk + j) := by rw [← nI_add, ← nI_add, Int32.add_assoc, Int32.add_comm (nI 100) q, hj4]
              refine ofK hg w_cd_Md_add (by decide) (by decide) (by first | decide | simp) (by simp [Value.category]) ?_
              intro K hK hR
              have hK : Gd l g "GradientShardsModel" b_Md_add 5 _ K := hK
              refine r_aload_n hK d_Md_add_0 rfl rfl ?_
              refine r_iload_n hK d_Md_add_1 rfl rfl ?_
              refine r_callVI hK d_Md_add_2 m_Md_70 rfl (in_fix rfl) (c_Md_isWorker_t hg hM.1.1 hv hw) (by decide) rfl rfl rfl ?_
              refine rn_if_eq (tgt := 37) hK d_Md_add_5 (by decide) (by first | omega | (split <;> omega)) (fun hno => absurd hno (by omega)) (fun _ => ?_)
              refine r_iload_n hK d_Md_add_8 rfl rfl ?_
              refine r_if_lt (tgt := 37) hK d_Md_add_9 (by decide) (fun hno => absurd hno (nI_pos (by omega))) (fun _ => ?_)
              refine r_iload_n hK d_Md_add_12 rfl rfl ?_
              refine r_iconst (v := nI 5) hK d_Md_add_13 (by decide) ?_
              refine rn_icmp_gt (tgt := 37) hK d_Md_add_14 (by decide) (by first | omega | (split <;> omega)) (by first | omega | (split <;> omega)) (fun hno => absurd hno (by omega)) (fun _ => ?_)
              refine r_iload_n hK d_Md_add_17 rfl rfl ?_
              refine r_bipush (v := -99) hK d_Md_add_18 (by decide) ?_
              refine r_icmp_lt (tgt := 37) hK d_Md_add_20 (by decide) (fun hno => absurd hno (hq1)) (fun _ => ?_)
              refine r_iload_n hK d_Md_add_23 rfl rfl ?_
              refine r_bipush (v := nI 99) hK d_Md_add_24 (by decide) ?_
              refine r_icmp_gt (tgt := 37) hK d_Md_add_26 (by decide) (fun hno => absurd hno (hq2)) (fun _ => ?_)
              refine r_aload_n hK d_Md_add_29 rfl rfl ?_
              refine r_iload_n hK d_Md_add_30 rfl rfl ?_
              refine r_callVI hK d_Md_add_31 m_Md_74 rfl (in_fix rfl) (hheld) (by decide) rfl rfl rfl ?_
              refine rn_if_eq (tgt := 39) hK d_Md_add_34 (by decide) (by first | omega | (split <;> omega)) (fun _ => ?_) (fun hno => absurd hno (by omega))
              refine r_iconst (v := nI 3) hK d_Md_add_39 (by decide) ?_
              refine r_iload_n hK d_Md_add_40 rfl rfl ?_
              refine r_imul hK d_Md_add_41 (pk_mul _ _) ?_
              refine r_iload_n hK d_Md_add_42 rfl rfl ?_
              refine r_iconst (v := nI 3) hK d_Md_add_43 (by decide) ?_
              refine r_irem hK d_Md_add_44 (by decide) (pk_rem (by omega) (by decide) (by decide)) ?_
              refine r_iadd hK d_Md_add_45 (nI_add _ _) ?_
              refine r_istore hK d_Md_add_46 rfl rfl ?_
              refine r_aload_n hK d_Md_add_48 rfl rfl ?_
              refine r_getR hK d_Md_add_49 f_Md_13 rfl (in_fix rfl) rfl rfl ?_
              refine r_iload hK d_Md_add_52 rfl ?_
              refine r_iald hK d_Md_add_54 rfl rfl (in_fix rfl) (ix_nI (j := 3 * v + kk % 3) (by omega)) (by show 3 * v + kk % 3 < 12; omega) p18 ?_
              refine r_aload_n hK d_Md_add_55 rfl rfl ?_
              refine r_getR hK d_Md_add_56 f_Md_16 rfl (in_fix rfl) rfl rfl ?_
              refine r_iload hK d_Md_add_59 rfl ?_
              refine r_iald hK d_Md_add_61 rfl rfl (in_fix rfl) (ix_nI (j := 3 * v + kk % 3) (by omega)) (by show 3 * v + kk % 3 < 12; omega) p19 ?_
              refine r_isub hK d_Md_add_62 (pk_sub (by omega)) ?_
              refine r_bipush (v := nI 20) hK d_Md_add_63 (by decide) ?_
              refine rn_icmp_lt (tgt := 70) hK d_Md_add_65 (by decide) (by first | omega | (split <;> omega)) (by first | omega | (split <;> omega)) (fun _ => ?_) (fun hno => absurd hno (by omega))
              refine r_aload_n hK d_Md_add_70 rfl rfl ?_
              refine r_iload hK d_Md_add_71 rfl ?_
              refine r_sipush (v := nI 1000) hK d_Md_add_73 (by decide) ?_
              refine r_iload_n hK d_Md_add_76 rfl rfl ?_
              refine r_imul hK d_Md_add_77 (pk_mul _ _) ?_
              refine r_bipush (v := nI 100) hK d_Md_add_78 (by decide) ?_
              refine r_iadd hK d_Md_add_80 (nI_add _ _) ?_
              refine r_iload_n hK d_Md_add_81 rfl rfl ?_
              refine r_iadd hK d_Md_add_82 hadd ?_
              refine r_callVV hK d_Md_add_83 m_Md_77 rfl (in_fix rfl) (c_Md_make hg (by omega) (hmk _ hlk) p18 hM.1.2.2.2.1 hM.1.2.2.2.2 hA.1.2.2.2.1) (by decide) rfl rfl rfl ?_
              refine r_iconst (v := nI 1) hK d_Md_add_86 (by decide) ?_
              exact hR.i d_Md_add_87 rfl (⟨rfl, MP_mkm hM hA hlk (hmk _ hlk), fun k hk => mkM_k hk⟩)
theorem c_Md_advance (hg : Gok g) (hM : MP w sl ru s σ) (hA : AI w N s) (hsl : sl ≤ 3) (hmk : ∀ l, l < 3 * w → s.1 1 l 0 < N) (i : Int32) : Ct l g y_Md_advance 2 [.ref (g.1 16 0), .int i] σ (PM w sl ru (advR w sl s i) σ) := by
  have hw := hA.1.2.1
  have hN := hA.1.2.2.1
  rcases bad_or w (by omega) i with hb | ⟨v, hv, rfl⟩
  · have hres : advR w sl s i = (s, nI 0) := if_pos (Or.inl hb)
    rw [hres]
    refine ofK hg w_cd_Md_advance (by decide) (by decide) (by first | decide | simp) (by simp [Value.category]) ?_
    intro K hK hR
    have hK : Gd l g "GradientShardsModel" b_Md_advance 3 _ K := hK
    refine r_aload_n hK d_Md_advance_0 rfl rfl ?_
    refine r_iload_n hK d_Md_advance_1 rfl rfl ?_
    refine r_callVI hK d_Md_advance_2 m_Md_70 rfl (in_fix rfl) (c_Md_isWorker_f hg hM.1.1 hb) (by decide) rfl rfl rfl ?_
    refine rn_if_eq (tgt := 16) hK d_Md_advance_5 (by decide) (by first | omega | (split <;> omega)) (fun _ => ?_) (fun hno => absurd hno (by omega))
    refine r_iconst (v := nI 0) hK d_Md_advance_16 (by decide) ?_
    exact hR.i d_Md_advance_17 rfl (⟨rfl, hM, fun _ _ => rfl⟩)
  · have hheld := c_Md_waits (l := l) (c := fun v => s.1 0 v 0) hg hM.1.1 hM.1.2.1 (by omega) hv hw hM.2.1 (fun j hj => by have := hA.2.1 j hj; show s.1 0 j 0 < _; omega)
    by_cases hwt : wtd w sl s.1 v
    · have hres : advR w sl s (nI v) = (s, nI 0) := if_pos (Or.inr (Or.inl (by rw [nI_clamp (by omega)]; exact hwt)))
      rw [hres]
      rw [if_pos hwt] at hheld
      refine ofK hg w_cd_Md_advance (by decide) (by decide) (by first | decide | simp) (by simp [Value.category]) ?_
      intro K hK hR
      have hK : Gd l g "GradientShardsModel" b_Md_advance 3 _ K := hK
      refine r_aload_n hK d_Md_advance_0 rfl rfl ?_
      refine r_iload_n hK d_Md_advance_1 rfl rfl ?_
      refine r_callVI hK d_Md_advance_2 m_Md_70 rfl (in_fix rfl) (c_Md_isWorker_t hg hM.1.1 hv hw) (by decide) rfl rfl rfl ?_
      refine rn_if_eq (tgt := 16) hK d_Md_advance_5 (by decide) (by first | omega | (split <;> omega)) (fun hno => absurd hno (by omega)) (fun _ => ?_)
      refine r_aload_n hK d_Md_advance_8 rfl rfl ?_
      refine r_iload_n hK d_Md_advance_9 rfl rfl ?_
      refine r_callVI hK d_Md_advance_10 m_Md_74 rfl (in_fix rfl) (hheld) (by decide) rfl rfl rfl ?_
      refine rn_if_eq (tgt := 18) hK d_Md_advance_13 (by decide) (by first | omega | (split <;> omega)) (fun hno => absurd hno (by omega)) (fun _ => ?_)
      refine r_iconst (v := nI 0) hK d_Md_advance_16 (by decide) ?_
      exact hR.i d_Md_advance_17 rfl (⟨rfl, hM, fun _ _ => rfl⟩)
    · rw [if_neg hwt] at hheld
      have hkl : ∀ h, h < 3 → s.1 2 (3 * v + h) 0 ≤ s.1 1 (3 * v + h) 0 ∧ s.1 1 (3 * v + h) 0 < 2 ^ 30 := fun h hh => by
        obtain ⟨l1, l2, l3, l4, -⟩ := hA.2.2.1 (3 * v + h) (by omega)
        omega
      by_cases hkq : keq s (3 * v + 0) < 24 ∧ keq s (3 * v + 1) < 24 ∧ keq s (3 * v + 2) < 24
      · have hres : advR w sl s (nI v) = ((ua (mk3 s v 3).1 0 v 0 ((mk3 s v 3).1 0 v 0 + 1), (mk3 s v 3).2), nI 1) := by
          unfold advR
          rw [nI_clamp (by omega), if_neg (fun z => by
            rcases z with z | z | z
            · exact ok_nI hv (by omega) z
            · exact hwt z
            · exact z hkq)]
        rw [hres]
        have hk3 : ∀ h, h < 3 → keq s (3 * v + h) < 24 := fun h hh => by
          rcases (by omega : h = 0 ∨ h = 1 ∨ h = 2) with e | e | e <;> subst e
          · exact hkq.1
          · exact hkq.2.1
          · exact hkq.2.2
        refine ofK hg w_cd_Md_advance (by decide) (by decide) (by first | decide | simp) (by simp [Value.category]) ?_
        intro K hK hR
        have hK : Gd l g "GradientShardsModel" b_Md_advance 3 _ K := hK
        have hloop2 : ∀ d h τ, h + d = 3 → MP w sl ru (mk3 s v h) τ → (∀ k, k < 16 → τ k = σ k) → K 61 [.ref (g.1 16 0), .int (nI v), .int (nI h)] [] τ := by
          intro d
          induction d with
          | zero =>
            intro h τ hd hMt hF
            obtain rfl : h = 3 := by omega
            refine r_iload_n hK d_Md_advance_61 rfl rfl ?_
            refine r_iconst (v := nI 3) hK d_Md_advance_62 (by decide) ?_
            refine rn_icmp_ge (tgt := 83) hK d_Md_advance_63 (by decide) (by first | omega | (split <;> omega)) (by first | omega | (split <;> omega)) (fun _ => ?_) (fun hno => absurd hno (by omega))
            refine r_aload_n hK d_Md_advance_83 rfl rfl ?_
            refine r_getR hK d_Md_advance_84 f_Md_7 rfl (in_fix rfl) rfl rfl ?_
            refine r_iload_n hK d_Md_advance_87 rfl rfl ?_
            refine r_aload_n hK d_Md_advance_88 rfl rfl ?_
            refine r_getR hK d_Md_advance_89 f_Md_7 rfl (in_fix rfl) rfl rfl ?_
            refine r_iload_n hK d_Md_advance_92 rfl rfl ?_
            refine r_iald hK d_Md_advance_93 rfl rfl (in_fix rfl) (ix_nI (j := v) (by omega)) (by show v < 4; omega) (hMt.2.1 v hv) ?_
            refine r_iconst (v := nI 1) hK d_Md_advance_94 (by decide) ?_
            refine r_iadd hK d_Md_advance_95 (nI_add _ _) ?_
            refine r_iast hK d_Md_advance_96 rfl rfl (in_fix rfl) (ix_nI (j := v) (by omega)) (by show v < 4; omega) ?_
            refine r_iconst (v := nI 1) hK d_Md_advance_97 (by decide) ?_
            exact hR.i d_Md_advance_98 rfl (⟨rfl, MP_0 hMt, fun k hk => by rw [up_k (by omega)]; exact hF k hk⟩)
          | succ d ih =>
            intro h τ hd hMt hF
            have hlk : 3 * v + h < 3 * w := by omega
            obtain ⟨hAt, he⟩ := AI_mk3 hA hv hmk hk3 h (by omega)
            have hm1 := he (3 * v + h) (fun h' hh' => by omega) 1 (by decide)
            have hm2 := hmk (3 * v + h) hlk
            have hm3 : (mk3 s v h).1 1 (3 * v + h) 0 < 512 := by rw [hm1]; omega
            refine r_iload_n hK d_Md_advance_61 rfl rfl ?_
            refine r_iconst (v := nI 3) hK d_Md_advance_62 (by decide) ?_
            refine rn_icmp_ge (tgt := 83) hK d_Md_advance_63 (by decide) (by first | omega | (split <;> omega)) (by first | omega | (split <;> omega)) (fun hno => absurd hno (by omega)) (fun _ => ?_)
            refine r_aload_n hK d_Md_advance_66 rfl rfl ?_
            refine r_iconst (v := nI 3) hK d_Md_advance_67 (by decide) ?_
            refine r_iload_n hK d_Md_advance_68 rfl rfl ?_
            refine r_imul hK d_Md_advance_69 (pk_mul _ _) ?_
            refine r_iload_n hK d_Md_advance_70 rfl rfl ?_
            refine r_iadd hK d_Md_advance_71 (nI_add _ _) ?_
            refine r_ldc (v := nI END) hK d_Md_advance_72 w_co_Md_81 ?_
            refine r_callVV hK d_Md_advance_74 m_Md_77 rfl (in_fix rfl) (c_Md_make hg (by omega) hm3 (hMt.2.2.1 (3 * v + h) hlk).1 hMt.1.2.2.2.1 hMt.1.2.2.2.2 hAt.1.2.2.2.1) (by decide) rfl rfl rfl ?_
            refine r_iinc hK d_Md_advance_77 rfl (nI_1 _) rfl ?_
            refine r_goto (tgt := 61) hK d_Md_advance_80 (by decide) ?_
            exact ih (h + 1) _ (by omega) (MP_mkm hMt hAt hlk hm3) (fun k hk => by rw [mkM_k hk]; exact hF k hk)
        have hloop1 : ∀ d h, h + d = 3 → K 20 [.ref (g.1 16 0), .int (nI v), .int (nI h)] [] σ := by
          intro d
          induction d with
          | zero =>
            intro h hd
            obtain rfl : h = 3 := by omega
            refine r_iload_n hK d_Md_advance_20 rfl rfl ?_
            refine r_iconst (v := nI 3) hK d_Md_advance_21 (by decide) ?_
            refine rn_icmp_ge (tgt := 59) hK d_Md_advance_22 (by decide) (by first | omega | (split <;> omega)) (by first | omega | (split <;> omega)) (fun _ => ?_) (fun hno => absurd hno (by omega))
            refine r_iconst (v := nI 0) hK d_Md_advance_59 (by decide) ?_
            refine r_istore_n hK d_Md_advance_60 rfl rfl rfl ?_
            exact hloop2 3 0 σ rfl hM (fun _ _ => rfl)
          | succ d ih =>
            intro h hd
            have hh : h < 3 := by omega
            have hlk : 3 * v + h < 3 * w := by omega
            obtain ⟨p18, p19, -⟩ := hM.2.2.1 (3 * v + h) hlk
            have hl := hkl h hh
            have hq := hk3 h hh
            unfold keq at hq
            refine r_iload_n hK d_Md_advance_20 rfl rfl ?_
            refine r_iconst (v := nI 3) hK d_Md_advance_21 (by decide) ?_
            refine rn_icmp_ge (tgt := 59) hK d_Md_advance_22 (by decide) (by first | omega | (split <;> omega)) (by first | omega | (split <;> omega)) (fun hno => absurd hno (by omega)) (fun _ => ?_)
            refine r_aload_n hK d_Md_advance_25 rfl rfl ?_
            refine r_getR hK d_Md_advance_26 f_Md_13 rfl (in_fix rfl) rfl rfl ?_
            refine r_iconst (v := nI 3) hK d_Md_advance_29 (by decide) ?_
            refine r_iload_n hK d_Md_advance_30 rfl rfl ?_
            refine r_imul hK d_Md_advance_31 (pk_mul _ _) ?_
            refine r_iload_n hK d_Md_advance_32 rfl rfl ?_
            refine r_iadd hK d_Md_advance_33 (nI_add _ _) ?_
            refine r_iald hK d_Md_advance_34 rfl rfl (in_fix rfl) (ix_nI (j := 3 * v + h) (by omega)) (by show 3 * v + h < 12; omega) p18 ?_
            refine r_aload_n hK d_Md_advance_35 rfl rfl ?_
            refine r_getR hK d_Md_advance_36 f_Md_16 rfl (in_fix rfl) rfl rfl ?_
            refine r_iconst (v := nI 3) hK d_Md_advance_39 (by decide) ?_
            refine r_iload_n hK d_Md_advance_40 rfl rfl ?_
            refine r_imul hK d_Md_advance_41 (pk_mul _ _) ?_
            refine r_iload_n hK d_Md_advance_42 rfl rfl ?_
            refine r_iadd hK d_Md_advance_43 (nI_add _ _) ?_
            refine r_iald hK d_Md_advance_44 rfl rfl (in_fix rfl) (ix_nI (j := 3 * v + h) (by omega)) (by show 3 * v + h < 12; omega) p19 ?_
            refine r_isub hK d_Md_advance_45 (pk_sub (by omega)) ?_
            refine r_bipush (v := nI 24) hK d_Md_advance_46 (by decide) ?_
            refine rn_icmp_lt (tgt := 53) hK d_Md_advance_48 (by decide) (by first | omega | (split <;> omega)) (by first | omega | (split <;> omega)) (fun _ => ?_) (fun hno => absurd hno (by omega))
            refine r_iinc hK d_Md_advance_53 rfl (nI_1 _) rfl ?_
            refine r_goto (tgt := 20) hK d_Md_advance_56 (by decide) ?_
            exact ih (h + 1) (by omega)
        refine r_aload_n hK d_Md_advance_0 rfl rfl ?_
        refine r_iload_n hK d_Md_advance_1 rfl rfl ?_
        refine r_callVI hK d_Md_advance_2 m_Md_70 rfl (in_fix rfl) (c_Md_isWorker_t hg hM.1.1 hv hw) (by decide) rfl rfl rfl ?_
        refine rn_if_eq (tgt := 16) hK d_Md_advance_5 (by decide) (by first | omega | (split <;> omega)) (fun hno => absurd hno (by omega)) (fun _ => ?_)
        refine r_aload_n hK d_Md_advance_8 rfl rfl ?_
        refine r_iload_n hK d_Md_advance_9 rfl rfl ?_
        refine r_callVI hK d_Md_advance_10 m_Md_74 rfl (in_fix rfl) (hheld) (by decide) rfl rfl rfl ?_
        refine rn_if_eq (tgt := 18) hK d_Md_advance_13 (by decide) (by first | omega | (split <;> omega)) (fun _ => ?_) (fun hno => absurd hno (by omega))
        refine r_iconst (v := nI 0) hK d_Md_advance_18 (by decide) ?_
        refine r_istore_n hK d_Md_advance_19 rfl rfl rfl ?_
        exact hloop1 3 0 rfl
      · have hres : advR w sl s (nI v) = (s, nI 0) := if_pos (Or.inr (Or.inr (by rw [nI_clamp (by omega)]; exact hkq)))
        rw [hres]
        refine ofK hg w_cd_Md_advance (by decide) (by decide) (by first | decide | simp) (by simp [Value.category]) ?_
        intro K hK hR
        have hK : Gd l g "GradientShardsModel" b_Md_advance 3 _ K := hK
        have hloop1 : ∀ d h, h + d = 3 → (∀ j, j < h → keq s (3 * v + j) < 24) → K 20 [.ref (g.1 16 0), .int (nI v), .int (nI h)] [] σ := by
          intro d
          induction d with
          | zero =>
            intro h hd hall
            obtain rfl : h = 3 := by omega
            exact absurd ⟨hall 0 (by omega), hall 1 (by omega), hall 2 (by omega)⟩ hkq
          | succ d ih =>
            intro h hd hall
            have hh : h < 3 := by omega
            have hlk : 3 * v + h < 3 * w := by omega
            obtain ⟨p18, p19, -⟩ := hM.2.2.1 (3 * v + h) hlk
            have hl := hkl h hh
            refine r_iload_n hK d_Md_advance_20 rfl rfl ?_
            refine r_iconst (v := nI 3) hK d_Md_advance_21 (by decide) ?_
            refine rn_icmp_ge (tgt := 59) hK d_Md_advance_22 (by decide) (by first | omega | (split <;> omega)) (by first | omega | (split <;> omega)) (fun hno => absurd hno (by omega)) (fun _ => ?_)
            refine r_aload_n hK d_Md_advance_25 rfl rfl ?_
            refine r_getR hK d_Md_advance_26 f_Md_13 rfl (in_fix rfl) rfl rfl ?_
            refine r_iconst (v := nI 3) hK d_Md_advance_29 (by decide) ?_
            refine r_iload_n hK d_Md_advance_30 rfl rfl ?_
            refine r_imul hK d_Md_advance_31 (pk_mul _ _) ?_
            refine r_iload_n hK d_Md_advance_32 rfl rfl ?_
            refine r_iadd hK d_Md_advance_33 (nI_add _ _) ?_
            refine r_iald hK d_Md_advance_34 rfl rfl (in_fix rfl) (ix_nI (j := 3 * v + h) (by omega)) (by show 3 * v + h < 12; omega) p18 ?_
            refine r_aload_n hK d_Md_advance_35 rfl rfl ?_
            refine r_getR hK d_Md_advance_36 f_Md_16 rfl (in_fix rfl) rfl rfl ?_
            refine r_iconst (v := nI 3) hK d_Md_advance_39 (by decide) ?_
            refine r_iload_n hK d_Md_advance_40 rfl rfl ?_
            refine r_imul hK d_Md_advance_41 (pk_mul _ _) ?_
            refine r_iload_n hK d_Md_advance_42 rfl rfl ?_
            refine r_iadd hK d_Md_advance_43 (nI_add _ _) ?_
            refine r_iald hK d_Md_advance_44 rfl rfl (in_fix rfl) (ix_nI (j := 3 * v + h) (by omega)) (by show 3 * v + h < 12; omega) p19 ?_
            refine r_isub hK d_Md_advance_45 (pk_sub (by omega)) ?_
            refine r_bipush (v := nI 24) hK d_Md_advance_46 (by decide) ?_
            refine rn_icmp_lt (tgt := 53) hK d_Md_advance_48 (by decide) (by first | omega | (split <;> omega)) (by first | omega | (split <;> omega)) (fun q => ?_) (fun q => ?_)
            · refine r_iinc hK d_Md_advance_53 rfl (nI_1 _) rfl ?_
              refine r_goto (tgt := 20) hK d_Md_advance_56 (by decide) ?_
              exact ih (h + 1) (by omega) (fun j hj => by by_cases e : j = h; subst e; exact q; exact hall j (by omega))
            · refine r_iconst (v := nI 0) hK d_Md_advance_51 (by decide) ?_
              exact hR.i d_Md_advance_52 rfl (⟨rfl, hM, fun _ _ => rfl⟩)
        refine r_aload_n hK d_Md_advance_0 rfl rfl ?_
        refine r_iload_n hK d_Md_advance_1 rfl rfl ?_
        refine r_callVI hK d_Md_advance_2 m_Md_70 rfl (in_fix rfl) (c_Md_isWorker_t hg hM.1.1 hv hw) (by decide) rfl rfl rfl ?_
        refine rn_if_eq (tgt := 16) hK d_Md_advance_5 (by decide) (by first | omega | (split <;> omega)) (fun hno => absurd hno (by omega)) (fun _ => ?_)
        refine r_aload_n hK d_Md_advance_8 rfl rfl ?_
        refine r_iload_n hK d_Md_advance_9 rfl rfl ?_
        refine r_callVI hK d_Md_advance_10 m_Md_74 rfl (in_fix rfl) (hheld) (by decide) rfl rfl rfl ?_
        refine rn_if_eq (tgt := 18) hK d_Md_advance_13 (by decide) (by first | omega | (split <;> omega)) (fun _ => ?_) (fun hno => absurd hno (by omega))
        refine r_iconst (v := nI 0) hK d_Md_advance_18 (by decide) ?_
        refine r_istore_n hK d_Md_advance_19 rfl rfl rfl ?_
        exact hloop1 3 0 rfl (fun j hj => absurd hj (Nat.not_lt_zero _))
end Md2
