/-! the reference: checkpoint, early -/
section Md5
variable {l : Launch} {g : Gc} {σ : Sg} {sl ru N w : Nat} {s : Sp}
def ckA (s : Sp) (h d v : Nat) : Ab := fun t i j => if t = 2 ∧ i % 3 = h ∧ i < 3 * v ∧ j = 0 then bnd s.1 i d else if t = 3 ∧ i % 3 = h ∧ i < 3 * v ∧ j = 0 then max (s.1 3 i 0) (bnd s.1 i d) else ua (ua s.1 8 h 0 d) 9 4 0 (s.1 9 4 0 + 1) t i j
theorem ckA_s (s : Sp) {h d v : Nat} (hh : h < 3) : ckA s h d (v + 1) = ua (ua (ckA s h d v) 2 (3 * v + h) 0 (bnd s.1 (3 * v + h) d)) 3 (3 * v + h) 0 (max (s.1 3 (3 * v + h) 0) (bnd s.1 (3 * v + h) d)) := by
  funext t i j
  by_cases q3 : t = 3 ∧ i = 3 * v + h ∧ j = 0
  · obtain ⟨e1, e2, e3⟩ := q3
    subst e1; subst e2; subst e3
    rw [ua_at]
    unfold ckA
    rw [if_neg (fun z => absurd z.1 (by decide)), if_pos ⟨rfl, by omega, by omega, rfl⟩]
  · rw [ua_ne q3]
    by_cases q2 : t = 2 ∧ i = 3 * v + h ∧ j = 0
    · obtain ⟨e1, e2, e3⟩ := q2
      subst e1; subst e2; subst e3
      rw [ua_at]
      unfold ckA
      rw [if_pos ⟨rfl, by omega, by omega, rfl⟩]
    · rw [ua_ne q2]
      unfold ckA
      by_cases c2 : t = 2 ∧ i % 3 = h ∧ i < 3 * v ∧ j = 0
      · rw [if_pos c2, if_pos ⟨c2.1, c2.2.1, by omega, c2.2.2.2⟩]
      · rw [if_neg c2, if_neg (fun z => c2 ⟨z.1, z.2.1, by omega, z.2.2.2⟩)]
        by_cases c3 : t = 3 ∧ i % 3 = h ∧ i < 3 * v ∧ j = 0
        · rw [if_pos c3, if_pos ⟨c3.1, c3.2.1, by omega, c3.2.2.2⟩]
        · rw [if_neg c3, if_neg (fun z => c3 ⟨z.1, z.2.1, by omega, z.2.2.2⟩)]
theorem ckA_0 (s : Sp) (h d : Nat) : ckA s h d 0 = ua (ua s.1 8 h 0 d) 9 4 0 (s.1 9 4 0 + 1) := by
  funext t i j
  unfold ckA
  rw [if_neg (fun z => absurd z.2.2.1 (by omega)), if_neg (fun z => absurd z.2.2.1 (by omega))]
theorem ckA_t {s : Sp} {h d v t : Nat} (h2 : t ≠ 2) (h3 : t ≠ 3) (h8 : t ≠ 8) (h9 : t ≠ 9) : ckA s h d v t = s.1 t := by
  funext i j
  unfold ckA
  rw [if_neg (fun z => h2 z.1), if_neg (fun z => h3 z.1), ua_t h9, ua_t h8]
theorem ckA_8 (s : Sp) (h d v : Nat) : ckA s h d v 8 h 0 = d := by
  unfold ckA
  rw [if_neg (fun z => absurd z.1 (by decide)), if_neg (fun z => absurd z.1 (by decide)), ua_t (by decide), ua_at]
theorem ckA_23 {s : Sp} {h d v : Nat} (hh : h < 3) : ckA s h d v 2 (3 * v + h) 0 = s.1 2 (3 * v + h) 0 ∧ ckA s h d v 3 (3 * v + h) 0 = s.1 3 (3 * v + h) 0 := by
  unfold ckA
  constructor
  · rw [if_neg (fun z => by omega), if_neg (fun z => by omega), ua_t (by decide), ua_t (by decide)]
  · rw [if_neg (fun z => by omega), if_neg (fun z => by omega), ua_t (by decide), ua_t (by decide)]
theorem c_Md_checkpoint (hg : Gok g) (hM : MP w sl ru s σ) (hA : AI w N s) (i : Int32) : Ct l g y_Md_checkpoint 2 [.ref (g.1 16 0), .int i] σ (PM w sl ru (ckpR w s i) σ) := by
  have hw := hA.1.2.1
  have hN := hA.1.2.2.1
  rcases bad_or 3 (by decide) i with hb | ⟨h, hh, rfl⟩
  · have hres : ckpR w s i = (s, -1) := if_pos (Or.inl hb)
    rw [hres]
    refine ofK hg w_cd_Md_checkpoint (by decide) (by decide) (by first | decide | simp) (by simp [Value.category]) ?_
    intro K hK hR
    have hK : Gd l g "GradientShardsModel" b_Md_checkpoint 6 _ K := hK
    refine r_iload_n hK d_Md_checkpoint_0 rfl rfl ?_
    refine r_callSI hK d_Md_checkpoint_1 m_Md_127 (c_Md_isShard_f hg hb) (by decide) rfl rfl rfl ?_
    refine rn_if_eq (tgt := 16) hK d_Md_checkpoint_4 (by decide) (by first | omega | (split <;> omega)) (fun _ => ?_) (fun hno => absurd hno (by omega))
    refine r_iconst (v := -1) hK d_Md_checkpoint_16 (by decide) ?_
    exact hR.i d_Md_checkpoint_17 rfl (⟨rfl, hM, fun _ _ => rfl⟩)
  · have s24 := (hM.2.2.2.2.2.1 h hh).1
    have hd1 := (hA.2.2.2.1 h hh).1
    by_cases h7 : s.1 7 h 0 = 1
    · have hres : ckpR w s (nI h) = (s, -1) := if_pos (Or.inr (by rw [nI_clamp (by omega)]; exact h7))
      rw [hres]
      refine ofK hg w_cd_Md_checkpoint (by decide) (by decide) (by first | decide | simp) (by simp [Value.category]) ?_
      intro K hK hR
      have hK : Gd l g "GradientShardsModel" b_Md_checkpoint 6 _ K := hK
      refine r_iload_n hK d_Md_checkpoint_0 rfl rfl ?_
      refine r_callSI hK d_Md_checkpoint_1 m_Md_127 (c_Md_isShard_t hg hh) (by decide) rfl rfl rfl ?_
      refine rn_if_eq (tgt := 16) hK d_Md_checkpoint_4 (by decide) (by first | omega | (split <;> omega)) (fun hno => absurd hno (by omega)) (fun _ => ?_)
      refine r_aload_n hK d_Md_checkpoint_7 rfl rfl ?_
      refine r_getR hK d_Md_checkpoint_8 f_Md_32 rfl (in_fix rfl) rfl rfl ?_
      refine r_iload_n hK d_Md_checkpoint_11 rfl rfl ?_
      refine r_zald hK d_Md_checkpoint_12 rfl rfl (in_fix rfl) (ix_nI (j := h) (by omega)) hh s24 ?_
      refine rn_if_eq (tgt := 18) hK d_Md_checkpoint_13 (by decide) (by first | omega | (split <;> omega)) (fun hno => absurd hno (by omega)) (fun _ => ?_)
      refine r_iconst (v := -1) hK d_Md_checkpoint_16 (by decide) ?_
      exact hR.i d_Md_checkpoint_17 rfl (⟨rfl, hM, fun _ _ => rfl⟩)
    · have hres : ckpR w s (nI h) = (ckp w s h, nI (ckpN s h (don w s.1 h) w)) := by unfold ckpR; rw [nI_clamp (by omega), if_neg (fun q => q.elim (ok_nI hh (by decide)) h7)]
      rw [hres]
      have h70 : s.1 7 h 0 = 0 := by omega
      have hck := (hA.2.2.2.1 h hh).2.2 h70
      have hdon : don w s.1 h ≤ 1000 := minF_le _ _ _
      have hfin : ((ckA s h (don w s.1 h) w, s.2) : Sp) = ckp w s h := rfl
      have hM1 := MP_8 (i := h) (v := don w s.1 h) hM
      have r26 := hM1.2.2.2.2.2.2.1 4 (by decide)
      have r26 : up σ 25 0 h (nI (don w s.1 h)) 26 0 4 = nI (s.1 9 4 0) := by
        have e : ua s.1 8 h 0 (don w s.1 h) 9 4 0 = s.1 9 4 0 := by rw [ua_t (by decide)]
        exact r26.trans (congrArg nI e)
      have hM2 := MP_9 (i := 4) (v := s.1 9 4 0 + 1) hM1
      have hM2 : MP w sl ru (ckA s h (don w s.1 h) 0, s.2) (up (up σ 25 0 h (nI (don w s.1 h))) 26 0 4 (nI (s.1 9 4 0 + 1))) := by rw [ckA_0]; exact hM2
      refine ofK hg w_cd_Md_checkpoint (by decide) (by decide) (by first | decide | simp) (by simp [Value.category]) ?_
      intro K hK hR
      have hK : Gd l g "GradientShardsModel" b_Md_checkpoint 6 _ K := hK
      have hloop : ∀ k v τ, v + k = w → MP w sl ru (ckA s h (don w s.1 h) v, s.2) τ → (∀ k, k < 16 → τ k = σ k) → K 47 [.ref (g.1 16 0), .int (nI h), .int (nI (ckpN s h (don w s.1 h) v)), .int (nI v)] [] τ := by
        intro k
        induction k with
        | zero =>
          intro v τ hv hMt hF
          obtain rfl : v = w := by omega
          refine r_iload_n hK d_Md_checkpoint_47 rfl rfl ?_
          refine r_aload_n hK d_Md_checkpoint_48 rfl rfl ?_
          refine r_getI hK d_Md_checkpoint_49 f_Md_50 rfl (in_fix rfl) rfl rfl hMt.1.1 ?_
          refine rn_icmp_ge (tgt := 135) hK d_Md_checkpoint_52 (by decide) (by first | omega | (split <;> omega)) (by first | omega | (split <;> omega)) (fun _ => ?_) (fun hno => absurd hno (by omega))
          refine r_iload_n hK d_Md_checkpoint_135 rfl rfl ?_
          exact hR.i d_Md_checkpoint_136 rfl (⟨rfl, hMt, hF⟩)
        | succ k ih =>
          intro v τ hv hMt hF
          have hvw : v < w := by omega
          have hx : 3 * v + h < 3 * w := by omega
          obtain ⟨l1, l2, l3, l4, -, -, -, -, l9, -⟩ := hA.2.2.1 (3 * v + h) hx
          rw [show (3 * v + h) % 3 = h by omega] at l9
          have hb1 := bnd_mono hck (don_ends s.1 hvw)
          have hb2 : bnd s.1 (3 * v + h) (don w s.1 h) ≤ s.1 1 (3 * v + h) 0 := bnF_le _ _ _
          rw [← l9] at hb1
          obtain ⟨e2, e3⟩ := ckA_23 (s := s) (h := h) (d := don w s.1 h) (v := v) hh
          have r18 : τ 18 0 (3 * v + h) = nI (s.1 1 (3 * v + h) 0) := by have := (hMt.2.2.1 (3 * v + h) hx).1; have e : ckA s h (don w s.1 h) v 1 (3 * v + h) 0 = s.1 1 (3 * v + h) 0 := by { rw [ckA_t (by decide) (by decide) (by decide) (by decide)] }; exact this.trans (congrArg nI e)
          have r19 : τ 19 0 (3 * v + h) = nI (s.1 2 (3 * v + h) 0) := (hMt.2.2.1 (3 * v + h) hx).2.1.trans (congrArg nI e2)
          have r20 : τ 20 0 (3 * v + h) = nI (s.1 3 (3 * v + h) 0) := (hMt.2.2.1 (3 * v + h) hx).2.2.trans (congrArg nI e3)
          have r25 : τ 25 0 h = nI (don w s.1 h) := (hMt.2.2.2.2.2.1 h hh).2.trans (congrArg nI (ckA_8 s h (don w s.1 h) v))
          have r21 : ∀ n, n < s.1 1 (3 * v + h) 0 → τ 21 0 (512 * (3 * v + h) + n) = nI (s.1 4 (3 * v + h) n) := fun n hn => by
            have := (hMt.2.2.2.1 (3 * v + h) n hx (by omega)).1
            have e : ckA s h (don w s.1 h) v 4 (3 * v + h) n = s.1 4 (3 * v + h) n := by rw [ckA_t (by decide) (by decide) (by decide) (by decide)]
            exact this.trans (congrArg nI e)
          have hbd := c_Md_boundaryG (l := l) hg (f := s.1 4 (3 * v + h)) (c := don w s.1 h) (by omega) (by omega) r18 (by omega) r21 (AI_f hA hx)
          have hbd : CI l g y_Md_boundary 0 [.ref (g.1 16 0), .int (nI (3 * v + h)), .int (nI (don w s.1 h))] τ (nI (bnd s.1 (3 * v + h) (don w s.1 h))) τ := hbd
          have hM3 := MP_3 (i := 3 * v + h) (v := max (s.1 3 (3 * v + h) 0) (bnd s.1 (3 * v + h) (don w s.1 h))) (MP_2 (i := 3 * v + h) (v := bnd s.1 (3 * v + h) (don w s.1 h)) hMt)
          have hM3 : MP w sl ru (ckA s h (don w s.1 h) (v + 1), s.2) (up (up τ 19 0 (3 * v + h) (nI (bnd s.1 (3 * v + h) (don w s.1 h)))) 20 0 (3 * v + h) (nI (max (s.1 3 (3 * v + h) 0) (bnd s.1 (3 * v + h) (don w s.1 h))))) := by rw [ckA_s s hh]; exact hM3
          have hih := fun τ => ih (v + 1) τ (by omega)
          have en1 : ckpN s h (don w s.1 h) (v + 1) = ckpN s h (don w s.1 h) v + bnd s.1 (3 * v + h) (don w s.1 h) - s.1 2 (3 * v + h) 0 := by
            show ckpN s h (don w s.1 h) v + (bnd s.1 (3 * v + h) (don w s.1 h) - s.1 2 (3 * v + h) 0) = _
            omega
          rw [en1] at hih
          generalize bnd s.1 (3 * v + h) (don w s.1 h) = bb at *
          have hF2 : ∀ k, k < 16 → (up (up τ 19 0 (3 * v + h) (nI bb)) 20 0 (3 * v + h) (nI (max (s.1 3 (3 * v + h) 0) bb))) k = σ k := fun k hk => by rw [up_k (by omega), up_k (by omega)]; exact hF k hk
          have hlast := hih _ hM3 hF2
          refine r_iload_n hK d_Md_checkpoint_47 rfl rfl ?_
          refine r_aload_n hK d_Md_checkpoint_48 rfl rfl ?_
          refine r_getI hK d_Md_checkpoint_49 f_Md_50 rfl (in_fix rfl) rfl rfl hMt.1.1 ?_
          refine rn_icmp_ge (tgt := 135) hK d_Md_checkpoint_52 (by decide) (by first | omega | (split <;> omega)) (by first | omega | (split <;> omega)) (fun hno => absurd hno (by omega)) (fun _ => ?_)
          refine r_iconst (v := nI 3) hK d_Md_checkpoint_55 (by decide) ?_
          refine r_iload_n hK d_Md_checkpoint_56 rfl rfl ?_
          refine r_imul hK d_Md_checkpoint_57 (pk_mul _ _) ?_
          refine r_iload_n hK d_Md_checkpoint_58 rfl rfl ?_
          refine r_iadd hK d_Md_checkpoint_59 (nI_add _ _) ?_
          refine r_istore hK d_Md_checkpoint_60 rfl rfl ?_
          refine r_aload_n hK d_Md_checkpoint_62 rfl rfl ?_
          refine r_iload hK d_Md_checkpoint_63 rfl ?_
          refine r_aload_n hK d_Md_checkpoint_65 rfl rfl ?_
          refine r_getR hK d_Md_checkpoint_66 f_Md_35 rfl (in_fix rfl) rfl rfl ?_
          refine r_iload_n hK d_Md_checkpoint_69 rfl rfl ?_
          refine r_iald hK d_Md_checkpoint_70 rfl rfl (in_fix rfl) (ix_nI (j := h) (by omega)) hh r25 ?_
          refine r_callVI hK d_Md_checkpoint_71 m_Md_86 rfl (in_fix rfl) (hbd) (by decide) rfl rfl rfl ?_
          refine r_istore hK d_Md_checkpoint_74 rfl rfl ?_
          refine r_iload_n hK d_Md_checkpoint_76 rfl rfl ?_
          refine r_iload hK d_Md_checkpoint_77 rfl ?_
          refine r_iadd hK d_Md_checkpoint_79 (nI_add _ _) ?_
          refine r_aload_n hK d_Md_checkpoint_80 rfl rfl ?_
          refine r_getR hK d_Md_checkpoint_81 f_Md_16 rfl (in_fix rfl) rfl rfl ?_
          refine r_iload hK d_Md_checkpoint_84 rfl ?_
          refine r_iald hK d_Md_checkpoint_86 rfl rfl (in_fix rfl) (ix_nI (j := 3 * v + h) (by omega)) (by show 3 * v + h < 12; omega) r19 ?_
          refine r_isub hK d_Md_checkpoint_87 (pk_sub (by omega)) ?_
          refine r_istore_n hK d_Md_checkpoint_88 rfl rfl rfl ?_
          refine r_aload_n hK d_Md_checkpoint_89 rfl rfl ?_
          refine r_getR hK d_Md_checkpoint_90 f_Md_16 rfl (in_fix rfl) rfl rfl ?_
          refine r_iload hK d_Md_checkpoint_93 rfl ?_
          refine r_iload hK d_Md_checkpoint_95 rfl ?_
          refine r_iast hK d_Md_checkpoint_97 rfl rfl (in_fix rfl) (ix_nI (j := 3 * v + h) (by omega)) (by show 3 * v + h < 12; omega) ?_
          refine r_aload_n hK d_Md_checkpoint_98 rfl rfl ?_
          refine r_getR hK d_Md_checkpoint_99 f_Md_19 rfl (in_fix rfl) rfl rfl ?_
          refine r_iload hK d_Md_checkpoint_102 rfl ?_
          refine r_aload_n hK d_Md_checkpoint_104 rfl rfl ?_
          refine r_getR hK d_Md_checkpoint_105 f_Md_19 rfl (in_fix rfl) rfl rfl ?_
          refine r_iload hK d_Md_checkpoint_108 rfl ?_
          refine r_iald hK d_Md_checkpoint_110 rfl rfl (in_fix rfl) (ix_nI (j := 3 * v + h) (by omega)) (by show 3 * v + h < 12; omega) (v := nI (s.1 3 (3 * v + h) 0)) (by rw [up_k (by decide)]; exact r20) ?_
          refine r_iload hK d_Md_checkpoint_111 rfl ?_
          refine rn_icmp_ge (tgt := 121) hK d_Md_checkpoint_113 (by decide) (by first | omega | (split <;> omega)) (by first | omega | (split <;> omega)) (fun q => ?_) (fun q => ?_)
          · rw [Nat.max_eq_left q] at hlast
            refine r_aload_n hK d_Md_checkpoint_121 rfl rfl ?_
            refine r_getR hK d_Md_checkpoint_122 f_Md_19 rfl (in_fix rfl) rfl rfl ?_
            refine r_iload hK d_Md_checkpoint_125 rfl ?_
            refine r_iald hK d_Md_checkpoint_127 rfl rfl (in_fix rfl) (ix_nI (j := 3 * v + h) (by omega)) (by show 3 * v + h < 12; omega) (v := nI (s.1 3 (3 * v + h) 0)) (by rw [up_k (by decide)]; exact r20) ?_
            refine r_iast hK d_Md_checkpoint_128 rfl rfl (in_fix rfl) (ix_nI (j := 3 * v + h) (by omega)) (by show 3 * v + h < 12; omega) ?_
            refine r_iinc hK d_Md_checkpoint_129 rfl (nI_1 _) rfl ?_
            refine r_goto (tgt := 47) hK d_Md_checkpoint_132 (by decide) ?_
            exact r_drop 4 hK hlast
          · rw [Nat.max_eq_right (Nat.le_of_lt q)] at hlast
            refine r_iload hK d_Md_checkpoint_116 rfl ?_
            refine r_goto (tgt := 128) hK d_Md_checkpoint_118 (by decide) ?_
            refine r_iast hK d_Md_checkpoint_128 rfl rfl (in_fix rfl) (ix_nI (j := 3 * v + h) (by omega)) (by show 3 * v + h < 12; omega) ?_
            refine r_iinc hK d_Md_checkpoint_129 rfl (nI_1 _) rfl ?_
            refine r_goto (tgt := 47) hK d_Md_checkpoint_132 (by decide) ?_
            exact r_drop 4 hK hlast
      refine r_iload_n hK d_Md_checkpoint_0 rfl rfl ?_
      refine r_callSI hK d_Md_checkpoint_1 m_Md_127 (c_Md_isShard_t hg hh) (by decide) rfl rfl rfl ?_
      refine rn_if_eq (tgt := 16) hK d_Md_checkpoint_4 (by decide) (by first | omega | (split <;> omega)) (fun hno => absurd hno (by omega)) (fun _ => ?_)
      refine r_aload_n hK d_Md_checkpoint_7 rfl rfl ?_
      refine r_getR hK d_Md_checkpoint_8 f_Md_32 rfl (in_fix rfl) rfl rfl ?_
      refine r_iload_n hK d_Md_checkpoint_11 rfl rfl ?_
      refine r_zald hK d_Md_checkpoint_12 rfl rfl (in_fix rfl) (ix_nI (j := h) (by omega)) hh s24 ?_
      refine rn_if_eq (tgt := 18) hK d_Md_checkpoint_13 (by decide) (by first | omega | (split <;> omega)) (fun _ => ?_) (fun hno => absurd hno (by omega))
      refine r_aload_n hK d_Md_checkpoint_18 rfl rfl ?_
      refine r_getR hK d_Md_checkpoint_19 f_Md_35 rfl (in_fix rfl) rfl rfl ?_
      refine r_iload_n hK d_Md_checkpoint_22 rfl rfl ?_
      refine r_aload_n hK d_Md_checkpoint_23 rfl rfl ?_
      refine r_iload_n hK d_Md_checkpoint_24 rfl rfl ?_
      refine r_callVI hK d_Md_checkpoint_25 m_Md_106 rfl (in_fix rfl) (c_Md_clocksDone hg hM hA hh) (by decide) rfl rfl rfl ?_
      refine r_iast hK d_Md_checkpoint_28 rfl rfl (in_fix rfl) (ix_nI (j := h) (by omega)) hh ?_
      refine r_aload_n hK d_Md_checkpoint_29 rfl rfl ?_
      refine r_getR hK d_Md_checkpoint_30 f_Md_38 rfl (in_fix rfl) rfl rfl ?_
      refine r_iconst (v := nI 4) hK d_Md_checkpoint_33 (by decide) ?_
      refine r_aload_n hK d_Md_checkpoint_34 rfl rfl ?_
      refine r_getR hK d_Md_checkpoint_35 f_Md_38 rfl (in_fix rfl) rfl rfl ?_
      refine r_iconst (v := nI 4) hK d_Md_checkpoint_38 (by decide) ?_
      refine r_iald hK d_Md_checkpoint_39 rfl rfl (in_fix rfl) (ix_nI (j := 4) (by decide)) (by show 4 < 6; decide) r26 ?_
      refine r_iconst (v := nI 1) hK d_Md_checkpoint_40 (by decide) ?_
      refine r_iadd hK d_Md_checkpoint_41 (nI_add _ _) ?_
      refine r_iast hK d_Md_checkpoint_42 rfl rfl (in_fix rfl) (ix_nI (j := 4) (by decide)) (by show 4 < 6; decide) ?_
      refine r_iconst (v := nI 0) hK d_Md_checkpoint_43 (by decide) ?_
      refine r_istore_n hK d_Md_checkpoint_44 rfl rfl rfl ?_
      refine r_iconst (v := nI 0) hK d_Md_checkpoint_45 (by decide) ?_
      refine r_istore_n hK d_Md_checkpoint_46 rfl rfl rfl ?_
      exact hloop w 0 _ (by omega) hM2 (fun k hk => by rw [up_k (by omega), up_k (by omega)])
theorem c_Md_early (hg : Gok g) (hM : MP w sl ru s σ) (hA : AI w N s) (i : Int32) : Ct l g y_Md_early 1 [.ref (g.1 16 0), .int i] σ (PM w sl ru (erlR w s i) σ) := by
  have hw := hA.1.2.1
  have hN := hA.1.2.2.1
  rcases bad_or 3 (by decide) i with hb | ⟨h, hh, rfl⟩
  · have hres : erlR w s i = (s, -1) := by unfold erlR; rw [if_pos (Or.inl hb)]
    rw [hres]
    refine ofK hg w_cd_Md_early (by decide) (by decide) (by first | decide | simp) (by simp [Value.category]) ?_
    intro K hK hR
    have hK : Gd l g "GradientShardsModel" b_Md_early 7 _ K := hK
    refine r_iload_n hK d_Md_early_0 rfl rfl ?_
    refine r_callSI hK d_Md_early_1 m_Md_127 (c_Md_isShard_f hg hb) (by decide) rfl rfl rfl ?_
    refine rn_if_eq (tgt := 16) hK d_Md_early_4 (by decide) (by first | omega | (split <;> omega)) (fun _ => ?_) (fun hno => absurd hno (by omega))
    refine r_iconst (v := -1) hK d_Md_early_16 (by decide) ?_
    exact hR.i d_Md_early_17 rfl (⟨rfl, hM, fun _ _ => rfl⟩)
  · have s24 := (hM.2.2.2.2.2.1 h hh).1
    have hd1 := (hA.2.2.2.1 h hh).1
    by_cases h7 : s.1 7 h 0 = 1
    · have hres : erlR w s (nI h) = (s, -1) := by unfold erlR; rw [nI_clamp (by omega), if_pos (Or.inr h7)]
      rw [hres]
      refine ofK hg w_cd_Md_early (by decide) (by decide) (by first | decide | simp) (by simp [Value.category]) ?_
      intro K hK hR
      have hK : Gd l g "GradientShardsModel" b_Md_early 7 _ K := hK
      refine r_iload_n hK d_Md_early_0 rfl rfl ?_
      refine r_callSI hK d_Md_early_1 m_Md_127 (c_Md_isShard_t hg hh) (by decide) rfl rfl rfl ?_
      refine rn_if_eq (tgt := 16) hK d_Md_early_4 (by decide) (by first | omega | (split <;> omega)) (fun hno => absurd hno (by omega)) (fun _ => ?_)
      refine r_aload_n hK d_Md_early_7 rfl rfl ?_
      refine r_getR hK d_Md_early_8 f_Md_32 rfl (in_fix rfl) rfl rfl ?_
      refine r_iload_n hK d_Md_early_11 rfl rfl ?_
      refine r_zald hK d_Md_early_12 rfl rfl (in_fix rfl) (ix_nI (j := h) (by omega)) hh s24 ?_
      refine rn_if_eq (tgt := 18) hK d_Md_early_13 (by decide) (by first | omega | (split <;> omega)) (fun hno => absurd hno (by omega)) (fun _ => ?_)
      refine r_iconst (v := -1) hK d_Md_early_16 (by decide) ?_
      exact hR.i d_Md_early_17 rfl (⟨rfl, hM, fun _ _ => rfl⟩)
    · have hres : erlR w s (nI h) = (s, nI (erlN s.1 h w)) := by unfold erlR; rw [nI_clamp (by omega), if_neg (fun q => q.elim (ok_nI hh (by decide)) h7)]
      rw [hres]
      refine ofK hg w_cd_Md_early (by decide) (by decide) (by first | decide | simp) (by simp [Value.category]) ?_
      intro K hK hR
      have hK : Gd l g "GradientShardsModel" b_Md_early 7 _ K := hK
      have hloop : ∀ d v, v + d = w → K 22 [.ref (g.1 16 0), .int (nI h), .int (nI (erlN s.1 h v)), .int (nI v)] [] σ := by
        intro d
        induction d with
        | zero =>
          intro v hv
          obtain rfl : v = w := by omega
          refine r_iload_n hK d_Md_early_22 rfl rfl ?_
          refine r_aload_n hK d_Md_early_23 rfl rfl ?_
          refine r_getI hK d_Md_early_24 f_Md_50 rfl (in_fix rfl) rfl rfl hM.1.1 ?_
          refine rn_icmp_ge (tgt := 98) hK d_Md_early_27 (by decide) (by first | omega | (split <;> omega)) (by first | omega | (split <;> omega)) (fun _ => ?_) (fun hno => absurd hno (by omega))
          refine r_iload_n hK d_Md_early_98 rfl rfl ?_
          exact hR.i d_Md_early_99 rfl (⟨rfl, hM, fun _ _ => rfl⟩)
        | succ d ih =>
          intro v hv
          have hx : 3 * v + h < 3 * w := by omega
          obtain ⟨l1, l2, l3, l4, l5, l6, l7, l8, -⟩ := hA.2.2.1 (3 * v + h) hx
          have htl := trn_le s.1 (3 * v + h)
          have hmd := (hM.2.2.1 (3 * v + h) hx).1
          have ih2 := ih (v + 1) (by omega)
          have en1 : erlN s.1 h (v + 1) = erlN s.1 h v + sumF (s.1 5 (3 * v + h)) (trn s.1 (3 * v + h)) (s.1 1 (3 * v + h) 0 - trn s.1 (3 * v + h)) := rfl
          rw [en1] at ih2
          generalize erlN s.1 h v = E0 at *
          have hin : ∀ d i, i + d = s.1 1 (3 * v + h) 0 - trn s.1 (3 * v + h) → K 49 [.ref (g.1 16 0), .int (nI h), .int (nI (E0 + sumF (s.1 5 (3 * v + h)) (trn s.1 (3 * v + h)) i)), .int (nI v), .int (nI (3 * v + h)), .int (nI (trn s.1 (3 * v + h))), .int (nI (trn s.1 (3 * v + h) + i))] [] σ := by
            intro d
            induction d with
            | zero =>
              intro i hi
              obtain rfl : i = s.1 1 (3 * v + h) 0 - trn s.1 (3 * v + h) := by omega
              refine r_iload hK d_Md_early_49 rfl ?_
              refine r_aload_n hK d_Md_early_51 rfl rfl ?_
              refine r_getR hK d_Md_early_52 f_Md_13 rfl (in_fix rfl) rfl rfl ?_
              refine r_iload hK d_Md_early_55 rfl ?_
              refine r_iald hK d_Md_early_57 rfl rfl (in_fix rfl) (ix_nI (j := 3 * v + h) (by omega)) (by show 3 * v + h < 12; omega) hmd ?_
              refine rn_icmp_ge (tgt := 92) hK d_Md_early_58 (by decide) (by first | omega | (split <;> omega)) (by first | omega | (split <;> omega)) (fun _ => ?_) (fun hno => absurd hno (by omega))
              refine r_iinc hK d_Md_early_92 rfl (nI_1 _) rfl ?_
              refine r_goto (tgt := 22) hK d_Md_early_95 (by decide) ?_
              exact r_drop 4 hK ih2
            | succ d ihi =>
              intro i hi
              have h1 := l7 (trn s.1 (3 * v + h) + i)
              have ihi2 := ihi (i + 1) (by omega)
              have e2 : E0 + sumF (s.1 5 (3 * v + h)) (trn s.1 (3 * v + h)) (i + 1) = E0 + sumF (s.1 5 (3 * v + h)) (trn s.1 (3 * v + h)) i + s.1 5 (3 * v + h) (trn s.1 (3 * v + h) + i) := (Nat.add_assoc _ _ _).symm
              refine r_iload hK d_Md_early_49 rfl ?_
              refine r_aload_n hK d_Md_early_51 rfl rfl ?_
              refine r_getR hK d_Md_early_52 f_Md_13 rfl (in_fix rfl) rfl rfl ?_
              refine r_iload hK d_Md_early_55 rfl ?_
              refine r_iald hK d_Md_early_57 rfl rfl (in_fix rfl) (ix_nI (j := 3 * v + h) (by omega)) (by show 3 * v + h < 12; omega) hmd ?_
              refine rn_icmp_ge (tgt := 92) hK d_Md_early_58 (by decide) (by first | omega | (split <;> omega)) (by first | omega | (split <;> omega)) (fun hno => absurd hno (by omega)) (fun _ => ?_)
              refine r_aload_n hK d_Md_early_61 rfl rfl ?_
              refine r_getR hK d_Md_early_62 f_Md_25 rfl (in_fix rfl) rfl rfl ?_
              refine r_sipush (v := nI 512) hK d_Md_early_65 (by decide) ?_
              refine r_iload hK d_Md_early_68 rfl ?_
              refine r_imul hK d_Md_early_70 (pk_mul _ _) ?_
              refine r_iload hK d_Md_early_71 rfl ?_
              refine r_iadd hK d_Md_early_73 (nI_add _ _) ?_
              refine r_zald hK d_Md_early_74 rfl rfl (in_fix rfl) (ix_nI (j := 512 * (3 * v + h) + (trn s.1 (3 * v + h) + i)) (by omega)) (by show 512 * (3 * v + h) + (trn s.1 (3 * v + h) + i) < 6144; omega) (hM.2.2.2.1 (3 * v + h) (trn s.1 (3 * v + h) + i) hx (by omega)).2 ?_
              refine rn_if_eq (tgt := 84) hK d_Md_early_75 (by decide) (by first | omega | (split <;> omega)) (fun q => ?_) (fun q => ?_)
              · rw [e2, q] at ihi2
                refine r_iload_n hK d_Md_early_84 rfl rfl ?_
                refine r_istore_n hK d_Md_early_85 rfl rfl rfl ?_
                refine r_iinc hK d_Md_early_86 rfl (nI_1 _) rfl ?_
                refine r_goto (tgt := 49) hK d_Md_early_89 (by decide) ?_
                exact ihi2
              · rw [e2, show s.1 5 (3 * v + h) (trn s.1 (3 * v + h) + i) = 1 by omega] at ihi2
                refine r_iload_n hK d_Md_early_78 rfl rfl ?_
                refine r_iconst (v := nI 1) hK d_Md_early_79 (by decide) ?_
                refine r_iadd hK d_Md_early_80 (nI_add _ _) ?_
                refine r_goto (tgt := 85) hK d_Md_early_81 (by decide) ?_
                refine r_istore_n hK d_Md_early_85 rfl rfl rfl ?_
                refine r_iinc hK d_Md_early_86 rfl (nI_1 _) rfl ?_
                refine r_goto (tgt := 49) hK d_Md_early_89 (by decide) ?_
                exact ihi2
          refine r_iload_n hK d_Md_early_22 rfl rfl ?_
          refine r_aload_n hK d_Md_early_23 rfl rfl ?_
          refine r_getI hK d_Md_early_24 f_Md_50 rfl (in_fix rfl) rfl rfl hM.1.1 ?_
          refine rn_icmp_ge (tgt := 98) hK d_Md_early_27 (by decide) (by first | omega | (split <;> omega)) (by first | omega | (split <;> omega)) (fun hno => absurd hno (by omega)) (fun _ => ?_)
          refine r_iconst (v := nI 3) hK d_Md_early_30 (by decide) ?_
          refine r_iload_n hK d_Md_early_31 rfl rfl ?_
          refine r_imul hK d_Md_early_32 (pk_mul _ _) ?_
          refine r_iload_n hK d_Md_early_33 rfl rfl ?_
          refine r_iadd hK d_Md_early_34 (nI_add _ _) ?_
          refine r_istore hK d_Md_early_35 rfl rfl ?_
          refine r_aload_n hK d_Md_early_37 rfl rfl ?_
          refine r_iload hK d_Md_early_38 rfl ?_
          refine r_callVI hK d_Md_early_40 m_Md_82 rfl (in_fix rfl) (c_Md_turn hg hM hA hx) (by decide) rfl rfl rfl ?_
          refine r_istore hK d_Md_early_43 rfl rfl ?_
          refine r_iload hK d_Md_early_45 rfl ?_
          refine r_istore hK d_Md_early_47 rfl rfl ?_
          exact hin (s.1 1 (3 * v + h) 0 - trn s.1 (3 * v + h)) 0 (by omega)
      refine r_iload_n hK d_Md_early_0 rfl rfl ?_
      refine r_callSI hK d_Md_early_1 m_Md_127 (c_Md_isShard_t hg hh) (by decide) rfl rfl rfl ?_
      refine rn_if_eq (tgt := 16) hK d_Md_early_4 (by decide) (by first | omega | (split <;> omega)) (fun hno => absurd hno (by omega)) (fun _ => ?_)
      refine r_aload_n hK d_Md_early_7 rfl rfl ?_
      refine r_getR hK d_Md_early_8 f_Md_32 rfl (in_fix rfl) rfl rfl ?_
      refine r_iload_n hK d_Md_early_11 rfl rfl ?_
      refine r_zald hK d_Md_early_12 rfl rfl (in_fix rfl) (ix_nI (j := h) (by omega)) hh s24 ?_
      refine rn_if_eq (tgt := 18) hK d_Md_early_13 (by decide) (by first | omega | (split <;> omega)) (fun _ => ?_) (fun hno => absurd hno (by omega))
      refine r_iconst (v := nI 0) hK d_Md_early_18 (by decide) ?_
      refine r_istore_n hK d_Md_early_19 rfl rfl rfl ?_
      refine r_iconst (v := nI 0) hK d_Md_early_20 (by decide) ?_
      refine r_istore_n hK d_Md_early_21 rfl rfl rfl ?_
      exact hloop w 0 (by omega)
end Md5
