/-! GradientShards: public methods, the rest -/
theorem mkm_t {s : Sp} {l m t : Nat} (h1 : t ≠ 1) (h4 : t ≠ 4) (h6 : t ≠ 6) (h9 : t ≠ 9) : (mkm s l m).1 t = s.1 t := by
  unfold mkm
  rw [snd_t h9]
  show ua (ua (ua s.1 4 l (s.1 1 l 0) m) 6 l (s.1 1 l 0 % 32) (s.1 12 0 0)) 1 l 0 (s.1 1 l 0 + 1) t = s.1 t
  rw [ua_t h1, ua_t h6, ua_t h4]
theorem mkm_l {s : Sp} {l m t l' : Nat} (h9 : t ≠ 9) (hl : l' ≠ l) : (mkm s l m).1 t l' = s.1 t l' := by
  unfold mkm
  rw [snd_t h9]
  show ua (ua (ua s.1 4 l (s.1 1 l 0) m) 6 l (s.1 1 l 0 % 32) (s.1 12 0 0)) 1 l 0 (s.1 1 l 0 + 1) t l' = s.1 t l'
  rw [ua_ti (fun z => hl z.2), ua_ti (fun z => hl z.2), ua_ti (fun z => hl z.2)]
theorem okM_end (l : Nat) : okM l END := Or.inl rfl
theorem AI_mk3 {w N : Nat} {s : Sp} {v : Nat} (hA : AI w N s) (hv : v < w) (hN : ∀ l, l < 3 * w → s.1 1 l 0 < N) (hk : ∀ h, h < 3 → keq s (3 * v + h) < 24) : ∀ h, h ≤ 3 → AI w N (mk3 s v h) ∧ ∀ l', (∀ h', h' < h → l' ≠ 3 * v + h') → ∀ t, t ≠ 9 → (mk3 s v h).1 t l' = s.1 t l'
  | 0, _ => ⟨hA, fun _ _ _ _ => rfl⟩
  | h + 1, hh => by
    obtain ⟨i1, i2⟩ := AI_mk3 hA hv hN hk h (by omega)
    have e := i2 (3 * v + h) (fun h' hh' => by omega)
    have hkh := hk h (by omega)
    have hl1 := (hA.2.2.1 (3 * v + h) (by omega))
    unfold keq at hkh
    refine ⟨AI_mkm i1 (by omega) (by rw [e 1 (by decide)]; exact hN _ (by omega)) (by rw [e 1 (by decide), e 2 (by decide)]; omega) (okM_end _), fun l' hl' t ht => ?_⟩
    show (mkm (mk3 s v h) (3 * v + h) END).1 t l' = _
    rw [mkm_l ht (hl' h (by omega))]
    exact i2 l' (fun h' hh' => hl' h' (by omega)) t ht
theorem lt_subI {c d e : Nat} (hc : c < 2 ^ 30) (hd : d < 2 ^ 30) (he : e < 2 ^ 30) : (nI d < nI c - nI e) ↔ d + e < c := by
  rw [Int32.lt_iff_toInt_lt, pk_sub_toInt hc he, nI_toInt (by omega)]
  omega
theorem g_of {q : Int32} (h1 : ¬ q < -99) (h2 : ¬ nI 99 < q) : ∃ j, 1 ≤ j ∧ j < 200 ∧ q = nI j - nI 100 ∧ q + nI 100 = nI j := by
  have a1 : (-99 : Int32).toInt = -99 := by decide
  have a2 : (nI 99).toInt = 99 := by decide
  rw [Int32.lt_iff_toInt_lt, a1] at h1
  rw [Int32.lt_iff_toInt_lt, a2] at h2
  have e : q = nI (q.toInt + 100).toNat - nI 100 := Int32.toInt_inj.mp (by
    rw [pk_sub_toInt (by omega) (by decide)]
    omega)
  refine ⟨(q.toInt + 100).toNat, by omega, by omega, e, ?_⟩
  have : q + nI 100 = nI (q.toInt + 100).toNat - nI 100 + nI 100 := by rw [← e]
  rw [this, Int32.sub_add_cancel]
section Gs4
variable {l : Launch} {g : Gc} {σ : Sg} {sl ru N : Nat} {s : Sp}
theorem c_Gs_kill (hg : Gok g) (hC : CP g.2.1 sl ru s σ) (hA : AI g.2.1 N s) (i : Int32) : Ct l g y_Gs_kill 2 [.ref (g.1 0 0), .int i] σ (PC g.2.1 sl ru (kllR g.2.1 s i) σ) := by
  have hN := hA.1.2.2.1
  have hlen := hA.1.2.2.2.1
  obtain ⟨n1, n2, n3, n4⟩ := hC.2.1
  rcases bad_or 3 (by decide) i with hb | ⟨h, hh, rfl⟩
  · have hres : kllR g.2.1 s i = (s, nI 0) := if_pos (Or.inl hb)
    rw [hres]
    refine ofK hg w_cd_Gs_kill (by decide) (by decide) (by first | decide | simp) (by simp [Value.category]) ?_
    intro K hK hR
    have hK : Gd l g "GradientShards" b_Gs_kill 2 _ K := hK
    refine r_aload_n hK d_Gs_kill_0 rfl rfl ?_
    refine r_iload_n hK d_Gs_kill_1 rfl rfl ?_
    refine r_callVI hK d_Gs_kill_2 m_Gs_140 rfl (in_fix rfl) (c_Gs_isUp_f hg hb) (by decide) rfl rfl rfl ?_
    refine rn_if_ne (tgt := 10) hK d_Gs_kill_5 (by decide) (by first | omega | (split <;> omega)) (fun hno => absurd hno (by omega)) (fun _ => ?_)
    refine r_iconst (v := nI 0) hK d_Gs_kill_8 (by decide) ?_
    exact hR.i d_Gs_kill_9 rfl (⟨rfl, hC, fun _ _ => rfl⟩)
  · have s8 := (hC.2.2.2.1 h hh).2.2.1
    have hd1 := (hA.2.2.2.1 h hh).1
    by_cases h7 : s.1 7 h 0 = 1
    · have hres : kllR g.2.1 s (nI h) = (s, nI 0) := if_pos (Or.inr (by rw [nI_clamp (by omega)]; exact h7))
      rw [hres]
      rw [h7] at s8
      refine ofK hg w_cd_Gs_kill (by decide) (by decide) (by first | decide | simp) (by simp [Value.category]) ?_
      intro K hK hR
      have hK : Gd l g "GradientShards" b_Gs_kill 2 _ K := hK
      refine r_aload_n hK d_Gs_kill_0 rfl rfl ?_
      refine r_iload_n hK d_Gs_kill_1 rfl rfl ?_
      refine r_callVI hK d_Gs_kill_2 m_Gs_140 rfl (in_fix rfl) (c_Gs_isUp_t hg hh s8 (by decide)) (by decide) rfl rfl rfl ?_
      refine rn_if_ne (tgt := 10) hK d_Gs_kill_5 (by decide) (by first | omega | (split <;> omega)) (fun hno => absurd hno (by omega)) (fun _ => ?_)
      refine r_iconst (v := nI 0) hK d_Gs_kill_8 (by decide) ?_
      exact hR.i d_Gs_kill_9 rfl (⟨rfl, hC, fun _ _ => rfl⟩)
    · have hres : kllR g.2.1 s (nI h) = (kll g.2.1 s h, nI 1) := by unfold kllR; rw [nI_clamp (by omega), if_neg (fun q => q.elim (ok_nI hh (by decide)) h7)]
      rw [hres]
      rw [show s.1 7 h 0 = 0 by omega] at s8
      have hcl : ∀ c, c ∈ s.2 → c < 2 ^ 31 := fun c hc => by
        obtain ⟨c1, c2, c3, -⟩ := hA.2.2.2.2 c hc
        have := (hA.2.2.1 _ (lkc_lt c1 c2).1).2.2.1
        omega
      have hrem := c_Nt_removeAllOf (l := l) (g := g) (σ := up σ 5 h 8 (nI 0)) (pk := s.2) (h := h) hg (by rw [up_k (by decide)]; exact n1) (fun i c hc => by rw [up_k (by decide)]; exact n4 i c hc) hcl hlen hh
      refine ofK hg w_cd_Gs_kill (by decide) (by decide) (by first | decide | simp) (by simp [Value.category]) ?_
      intro K hK hR
      have hK : Gd l g "GradientShards" b_Gs_kill 2 _ K := hK
      refine r_aload_n hK d_Gs_kill_0 rfl rfl ?_
      refine r_iload_n hK d_Gs_kill_1 rfl rfl ?_
      refine r_callVI hK d_Gs_kill_2 m_Gs_140 rfl (in_fix rfl) (c_Gs_isUp_t hg hh s8 (by decide)) (by decide) rfl rfl rfl ?_
      refine rn_if_ne (tgt := 10) hK d_Gs_kill_5 (by decide) (by first | omega | (split <;> omega)) (fun _ => ?_) (fun hno => absurd hno (by omega))
      refine r_aload_n hK d_Gs_kill_10 rfl rfl ?_
      refine r_getR hK d_Gs_kill_11 f_Gs_19 rfl (in_fix rfl) rfl rfl ?_
      refine r_iload_n hK d_Gs_kill_14 rfl rfl ?_
      refine r_aald hK d_Gs_kill_15 rfl (Or.inl rfl) (in_fix rfl) (ix_nI (j := h) (by omega)) hh rfl ?_
      refine r_iconst (v := nI 0) hK d_Gs_kill_16 (by decide) ?_
      refine r_putI hK d_Gs_kill_17 f_Gs_60 rfl (in_sh rfl (by assumption)) rfl rfl rfl rfl ?_
      refine r_aload_n hK d_Gs_kill_20 rfl rfl ?_
      refine r_getR hK d_Gs_kill_21 f_Gs_29 rfl (in_fix rfl) rfl rfl ?_
      refine r_iload_n hK d_Gs_kill_24 rfl rfl ?_
      refine r_callVP hK d_Gs_kill_25 m_Gs_143 rfl (in_fix rfl) (hrem) (by decide) rfl rfl rfl (fun r9 τ9 hP9 => ?_)
      obtain ⟨rfl, q1, q2, q3, q4⟩ := hP9
      refine r_iconst (v := nI 1) hK d_Gs_kill_28 (by decide) ?_
      exact hR.i d_Gs_kill_29 rfl (⟨rfl, CP_kll hC hh q1 q2 q3 q4, fun k hk => by rw [q4 k (by omega) (by omega), up_k (by omega)]⟩)
theorem c_Gs_recover (hg : Gok g) (hC : CP g.2.1 sl ru s σ) (hA : AI g.2.1 N s) (i : Int32) : Ct l g y_Gs_recover 3 [.ref (g.1 0 0), .int i] σ (PC g.2.1 sl ru (rcvR g.2.1 s i) σ) := by
  have hw := hA.1.2.1
  rcases bad_or 3 (by decide) i with hb | ⟨h, hh, rfl⟩
  · have hres : rcvR g.2.1 s i = (s, nI 0) := if_pos (Or.inl hb)
    rw [hres]
    refine ofK hg w_cd_Gs_recover (by decide) (by decide) (by first | decide | simp) (by simp [Value.category]) ?_
    intro K hK hR
    have hK : Gd l g "GradientShards" b_Gs_recover 2 _ K := hK
    refine r_iload_n hK d_Gs_recover_0 rfl rfl ?_
    refine r_callSI hK d_Gs_recover_1 m_Gs_146 (c_Gs_isShard_f hg hb) (by decide) rfl rfl rfl ?_
    refine rn_if_eq (tgt := 19) hK d_Gs_recover_4 (by decide) (by first | omega | (split <;> omega)) (fun _ => ?_) (fun hno => absurd hno (by omega))
    refine r_iconst (v := nI 0) hK d_Gs_recover_19 (by decide) ?_
    exact hR.i d_Gs_recover_20 rfl (⟨rfl, hC, fun _ _ => rfl⟩)
  · have s8 := (hC.2.2.2.1 h hh).2.2.1
    have hd1 := (hA.2.2.2.1 h hh).1
    by_cases h7 : s.1 7 h 0 = 0
    · have hres : rcvR g.2.1 s (nI h) = (s, nI 0) := if_pos (Or.inr (by rw [nI_clamp (by omega)]; exact h7))
      rw [hres]
      rw [h7] at s8
      refine ofK hg w_cd_Gs_recover (by decide) (by decide) (by first | decide | simp) (by simp [Value.category]) ?_
      intro K hK hR
      have hK : Gd l g "GradientShards" b_Gs_recover 2 _ K := hK
      refine r_iload_n hK d_Gs_recover_0 rfl rfl ?_
      refine r_callSI hK d_Gs_recover_1 m_Gs_146 (c_Gs_isShard_t hg hh) (by decide) rfl rfl rfl ?_
      refine rn_if_eq (tgt := 19) hK d_Gs_recover_4 (by decide) (by first | omega | (split <;> omega)) (fun hno => absurd hno (by omega)) (fun _ => ?_)
      refine r_aload_n hK d_Gs_recover_7 rfl rfl ?_
      refine r_getR hK d_Gs_recover_8 f_Gs_19 rfl (in_fix rfl) rfl rfl ?_
      refine r_iload_n hK d_Gs_recover_11 rfl rfl ?_
      refine r_aald hK d_Gs_recover_12 rfl (Or.inl rfl) (in_fix rfl) (ix_nI (j := h) (by omega)) hh rfl ?_
      refine r_getI hK d_Gs_recover_13 f_Gs_60 rfl (in_sh rfl (by assumption)) rfl rfl s8 ?_
      refine rn_if_eq (tgt := 21) hK d_Gs_recover_16 (by decide) (by first | omega | (split <;> omega)) (fun hno => absurd hno (by omega)) (fun _ => ?_)
      refine r_iconst (v := nI 0) hK d_Gs_recover_19 (by decide) ?_
      exact hR.i d_Gs_recover_20 rfl (⟨rfl, hC, fun _ _ => rfl⟩)
    · have hres : rcvR g.2.1 s (nI h) = (rcv g.2.1 s h, nI 1) := by unfold rcvR; rw [nI_clamp (by omega), if_neg (fun q => q.elim (ok_nI hh (by decide)) h7)]
      rw [hres]
      rw [show s.1 7 h 0 = 1 by omega] at s8
      have hgb := c_Sh_goBack (l := l) (st := fun v => s.1 2 (3 * v + h) 0) hg hh hw (hC.2.2.2.1 h hh).2.1 (fun v hv => (hC.2.2.1 (3 * v + h) (by omega)).2.2.2.1)
      have h8 := hC.1.2.2.2.2.2.1
      refine ofK hg w_cd_Gs_recover (by decide) (by decide) (by first | decide | simp) (by simp [Value.category]) ?_
      intro K hK hR
      have hK : Gd l g "GradientShards" b_Gs_recover 2 _ K := hK
      refine r_iload_n hK d_Gs_recover_0 rfl rfl ?_
      refine r_callSI hK d_Gs_recover_1 m_Gs_146 (c_Gs_isShard_t hg hh) (by decide) rfl rfl rfl ?_
      refine rn_if_eq (tgt := 19) hK d_Gs_recover_4 (by decide) (by first | omega | (split <;> omega)) (fun hno => absurd hno (by omega)) (fun _ => ?_)
      refine r_aload_n hK d_Gs_recover_7 rfl rfl ?_
      refine r_getR hK d_Gs_recover_8 f_Gs_19 rfl (in_fix rfl) rfl rfl ?_
      refine r_iload_n hK d_Gs_recover_11 rfl rfl ?_
      refine r_aald hK d_Gs_recover_12 rfl (Or.inl rfl) (in_fix rfl) (ix_nI (j := h) (by omega)) hh rfl ?_
      refine r_getI hK d_Gs_recover_13 f_Gs_60 rfl (in_sh rfl (by assumption)) rfl rfl s8 ?_
      refine rn_if_eq (tgt := 21) hK d_Gs_recover_16 (by decide) (by first | omega | (split <;> omega)) (fun _ => ?_) (fun hno => absurd hno (by omega))
      refine r_aload_n hK d_Gs_recover_21 rfl rfl ?_
      refine r_getR hK d_Gs_recover_22 f_Gs_19 rfl (in_fix rfl) rfl rfl ?_
      refine r_iload_n hK d_Gs_recover_25 rfl rfl ?_
      refine r_aald hK d_Gs_recover_26 rfl (Or.inl rfl) (in_fix rfl) (ix_nI (j := h) (by omega)) hh rfl ?_
      refine r_callVP hK d_Gs_recover_27 m_Gs_149 rfl (in_sh rfl (by assumption)) (hgb) (by decide) rfl rfl rfl (fun r9 τ9 hP9 => ?_)
      obtain ⟨rfl, τ0, hM, rfl⟩ := hP9
      refine r_aload_n hK d_Gs_recover_30 rfl rfl ?_
      refine r_dup hK d_Gs_recover_31 rfl ?_
      refine r_getI hK d_Gs_recover_32 f_Gs_152 rfl (in_fix rfl) rfl rfl (v := nI (s.1 9 5 0)) (by rw [up_k (by decide), hM.2.2.2 0 0 8 (by omega) (by omega) (by omega) (by omega) (by omega)]; exact h8) ?_
      refine r_iconst (v := nI 1) hK d_Gs_recover_35 (by decide) ?_
      refine r_iadd hK d_Gs_recover_36 (nI_add _ _) ?_
      refine r_putI hK d_Gs_recover_37 f_Gs_152 rfl (in_fix rfl) rfl rfl rfl rfl ?_
      refine r_iconst (v := nI 1) hK d_Gs_recover_40 (by decide) ?_
      exact hR.i d_Gs_recover_41 rfl (⟨rfl, CP_rcv hC hA hh hM, fun k hk => by rw [up_k (by omega), up_k (by omega)]; funext n j; exact hM.2.2.2 k n j (by omega) (by omega) (by omega) (by omega) (by omega)⟩)
theorem c_Gs_checkpoint (hg : Gok g) (hC : CP g.2.1 sl ru s σ) (hA : AI g.2.1 N s) (i : Int32) : Ct l g y_Gs_checkpoint 3 [.ref (g.1 0 0), .int i] σ (PC g.2.1 sl ru (ckpR g.2.1 s i) σ) := by
  have hw := hA.1.2.1
  have hN := hA.1.2.2.1
  rcases bad_or 3 (by decide) i with hb | ⟨h, hh, rfl⟩
  · have hres : ckpR g.2.1 s i = (s, -1) := if_pos (Or.inl hb)
    rw [hres]
    refine ofK hg w_cd_Gs_checkpoint (by decide) (by decide) (by first | decide | simp) (by simp [Value.category]) ?_
    intro K hK hR
    have hK : Gd l g "GradientShards" b_Gs_checkpoint 2 _ K := hK
    refine r_aload_n hK d_Gs_checkpoint_0 rfl rfl ?_
    refine r_iload_n hK d_Gs_checkpoint_1 rfl rfl ?_
    refine r_callVI hK d_Gs_checkpoint_2 m_Gs_140 rfl (in_fix rfl) (c_Gs_isUp_f hg hb) (by decide) rfl rfl rfl ?_
    refine rn_if_ne (tgt := 10) hK d_Gs_checkpoint_5 (by decide) (by first | omega | (split <;> omega)) (fun hno => absurd hno (by omega)) (fun _ => ?_)
    refine r_iconst (v := -1) hK d_Gs_checkpoint_8 (by decide) ?_
    exact hR.i d_Gs_checkpoint_9 rfl (⟨rfl, hC, fun _ _ => rfl⟩)
  · have s8 := (hC.2.2.2.1 h hh).2.2.1
    have hd1 := (hA.2.2.2.1 h hh).1
    by_cases h7 : s.1 7 h 0 = 1
    · have hres : ckpR g.2.1 s (nI h) = (s, -1) := if_pos (Or.inr (by rw [nI_clamp (by omega)]; exact h7))
      rw [hres]
      rw [h7] at s8
      refine ofK hg w_cd_Gs_checkpoint (by decide) (by decide) (by first | decide | simp) (by simp [Value.category]) ?_
      intro K hK hR
      have hK : Gd l g "GradientShards" b_Gs_checkpoint 2 _ K := hK
      refine r_aload_n hK d_Gs_checkpoint_0 rfl rfl ?_
      refine r_iload_n hK d_Gs_checkpoint_1 rfl rfl ?_
      refine r_callVI hK d_Gs_checkpoint_2 m_Gs_140 rfl (in_fix rfl) (c_Gs_isUp_t hg hh s8 (by decide)) (by decide) rfl rfl rfl ?_
      refine rn_if_ne (tgt := 10) hK d_Gs_checkpoint_5 (by decide) (by first | omega | (split <;> omega)) (fun hno => absurd hno (by omega)) (fun _ => ?_)
      refine r_iconst (v := -1) hK d_Gs_checkpoint_8 (by decide) ?_
      exact hR.i d_Gs_checkpoint_9 rfl (⟨rfl, hC, fun _ _ => rfl⟩)
    · have hres : ckpR g.2.1 s (nI h) = (ckp g.2.1 s h, nI (ckpN s h (don g.2.1 s.1 h) g.2.1)) := by unfold ckpR; rw [nI_clamp (by omega), if_neg (fun q => q.elim (ok_nI hh (by decide)) h7)]
      rw [hres]
      have h70 : s.1 7 h 0 = 0 := by omega
      rw [h70] at s8
      obtain ⟨⟨u6, u78⟩, uL⟩ := hC.2.2.2.2 h hh h70
      have hck := (hA.2.2.2.1 h hh).2.2 h70
      have hmc := c_Sh_makeCheckpoint (l := l) (g := g) (σ := up σ 0 0 7 (nI (s.1 9 4 0 + 1))) (h := h) (d := don g.2.1 s.1 h) (bd := fun v => bnd s.1 (3 * v + h) (don g.2.1 s.1 h)) (st := fun v => s.1 2 (3 * v + h) 0) (cf := fun v => s.1 3 (3 * v + h) 0) hg hh hw (by rw [up_k (by decide)]; exact u6)
        (fun v hv => by rw [up_k (by decide)]; have := (uL v hv).2.2.1; rw [show (3 * v + h) % 3 = h by omega] at this; exact this)
        (fun v hv => by rw [up_k (by decide)]; exact (hC.2.2.1 (3 * v + h) (by omega)).2.2.2.1)
        (fun v hv => by rw [up_k (by decide)]; exact (hC.2.2.1 (3 * v + h) (by omega)).2.2.2.2.1)
        (fun v hv => by
          obtain ⟨l1, l2, l3, l4, -, -, -, -, l9, -⟩ := hA.2.2.1 (3 * v + h) (by omega)
          rw [show (3 * v + h) % 3 = h by omega] at l9
          have b1 := bnd_mono hck (don_ends s.1 hv)
          have b2 : bnd s.1 (3 * v + h) (don g.2.1 s.1 h) ≤ s.1 1 (3 * v + h) 0 := bnF_le _ _ _
          refine ⟨by show s.1 2 (3 * v + h) 0 ≤ _; rw [l9]; exact b1, by show bnd s.1 (3 * v + h) (don g.2.1 s.1 h) < _; omega, by show s.1 3 (3 * v + h) 0 < _; omega⟩)
      refine ofK hg w_cd_Gs_checkpoint (by decide) (by decide) (by first | decide | simp) (by simp [Value.category]) ?_
      intro K hK hR
      have hK : Gd l g "GradientShards" b_Gs_checkpoint 2 _ K := hK
      refine r_aload_n hK d_Gs_checkpoint_0 rfl rfl ?_
      refine r_iload_n hK d_Gs_checkpoint_1 rfl rfl ?_
      refine r_callVI hK d_Gs_checkpoint_2 m_Gs_140 rfl (in_fix rfl) (c_Gs_isUp_t hg hh s8 (by decide)) (by decide) rfl rfl rfl ?_
      refine rn_if_ne (tgt := 10) hK d_Gs_checkpoint_5 (by decide) (by first | omega | (split <;> omega)) (fun _ => ?_) (fun hno => absurd hno (by omega))
      refine r_aload_n hK d_Gs_checkpoint_10 rfl rfl ?_
      refine r_dup hK d_Gs_checkpoint_11 rfl ?_
      refine r_getI hK d_Gs_checkpoint_12 f_Gs_155 rfl (in_fix rfl) rfl rfl hC.1.2.2.2.2.1 ?_
      refine r_iconst (v := nI 1) hK d_Gs_checkpoint_15 (by decide) ?_
      refine r_iadd hK d_Gs_checkpoint_16 (nI_add _ _) ?_
      refine r_putI hK d_Gs_checkpoint_17 f_Gs_155 rfl (in_fix rfl) rfl rfl rfl rfl ?_
      refine r_aload_n hK d_Gs_checkpoint_20 rfl rfl ?_
      refine r_getR hK d_Gs_checkpoint_21 f_Gs_19 rfl (in_fix rfl) rfl rfl ?_
      refine r_iload_n hK d_Gs_checkpoint_24 rfl rfl ?_
      refine r_aald hK d_Gs_checkpoint_25 rfl (Or.inl rfl) (in_fix rfl) (ix_nI (j := h) (by omega)) hh rfl ?_
      refine r_callVP hK d_Gs_checkpoint_26 m_Gs_158 rfl (in_sh rfl (by assumption)) (hmc) (by decide) rfl rfl rfl (fun r9 τ9 hP9 => ?_)
      obtain ⟨rfl, hM⟩ := hP9
      exact hR.i d_Gs_checkpoint_29 rfl (⟨rfl, CP_ckp hC hA hh h70 hM, fun k hk => by funext n j; rw [hM.2.2.2 k n j (by omega) (by omega) (by omega) (by omega), up_k (by omega)]⟩)
theorem c_Gs_done (hg : Gok g) (hC : CP g.2.1 sl ru s σ) (hA : AI g.2.1 N s) (i : Int32) : Ct l g y_Gs_done 2 [.ref (g.1 0 0), .int i] σ (PC g.2.1 sl ru (donR g.2.1 s i) σ) := by
  rcases bad_or 3 (by decide) i with hb | ⟨h, hh, rfl⟩
  · have hres : donR g.2.1 s i = (s, -1) := by unfold donR; rw [if_pos (Or.inl hb)]
    rw [hres]
    refine ofK hg w_cd_Gs_done (by decide) (by decide) (by first | decide | simp) (by simp [Value.category]) ?_
    intro K hK hR
    have hK : Gd l g "GradientShards" b_Gs_done 2 _ K := hK
    refine r_aload_n hK d_Gs_done_0 rfl rfl ?_
    refine r_iload_n hK d_Gs_done_1 rfl rfl ?_
    refine r_callVI hK d_Gs_done_2 m_Gs_140 rfl (in_fix rfl) (c_Gs_isUp_f hg hb) (by decide) rfl rfl rfl ?_
    refine rn_if_eq (tgt := 20) hK d_Gs_done_5 (by decide) (by first | omega | (split <;> omega)) (fun _ => ?_) (fun hno => absurd hno (by omega))
    refine r_iconst (v := -1) hK d_Gs_done_20 (by decide) ?_
    exact hR.i d_Gs_done_21 rfl (⟨rfl, hC, fun _ _ => rfl⟩)
  · have s8 := (hC.2.2.2.1 h hh).2.2.1
    have hd1 := (hA.2.2.2.1 h hh).1
    by_cases h7 : s.1 7 h 0 = 1
    · have hres : donR g.2.1 s (nI h) = (s, -1) := by unfold donR; rw [nI_clamp (by omega), if_pos (Or.inr h7)]
      rw [hres]
      rw [h7] at s8
      refine ofK hg w_cd_Gs_done (by decide) (by decide) (by first | decide | simp) (by simp [Value.category]) ?_
      intro K hK hR
      have hK : Gd l g "GradientShards" b_Gs_done 2 _ K := hK
      refine r_aload_n hK d_Gs_done_0 rfl rfl ?_
      refine r_iload_n hK d_Gs_done_1 rfl rfl ?_
      refine r_callVI hK d_Gs_done_2 m_Gs_140 rfl (in_fix rfl) (c_Gs_isUp_t hg hh s8 (by decide)) (by decide) rfl rfl rfl ?_
      refine rn_if_eq (tgt := 20) hK d_Gs_done_5 (by decide) (by first | omega | (split <;> omega)) (fun _ => ?_) (fun hno => absurd hno (by omega))
      refine r_iconst (v := -1) hK d_Gs_done_20 (by decide) ?_
      exact hR.i d_Gs_done_21 rfl (⟨rfl, hC, fun _ _ => rfl⟩)
    · have hres : donR g.2.1 s (nI h) = (s, nI (don g.2.1 s.1 h)) := by unfold donR; rw [nI_clamp (by omega), if_neg (fun q => q.elim (ok_nI hh (by decide)) h7)]
      rw [hres]
      have h70 : s.1 7 h 0 = 0 := by omega
      rw [h70] at s8
      refine ofK hg w_cd_Gs_done (by decide) (by decide) (by first | decide | simp) (by simp [Value.category]) ?_
      intro K hK hR
      have hK : Gd l g "GradientShards" b_Gs_done 2 _ K := hK
      refine r_aload_n hK d_Gs_done_0 rfl rfl ?_
      refine r_iload_n hK d_Gs_done_1 rfl rfl ?_
      refine r_callVI hK d_Gs_done_2 m_Gs_140 rfl (in_fix rfl) (c_Gs_isUp_t hg hh s8 (by decide)) (by decide) rfl rfl rfl ?_
      refine rn_if_eq (tgt := 20) hK d_Gs_done_5 (by decide) (by first | omega | (split <;> omega)) (fun hno => absurd hno (by omega)) (fun _ => ?_)
      refine r_aload_n hK d_Gs_done_8 rfl rfl ?_
      refine r_getR hK d_Gs_done_9 f_Gs_19 rfl (in_fix rfl) rfl rfl ?_
      refine r_iload_n hK d_Gs_done_12 rfl rfl ?_
      refine r_aald hK d_Gs_done_13 rfl (Or.inl rfl) (in_fix rfl) (ix_nI (j := h) (by omega)) hh rfl ?_
      refine r_getI hK d_Gs_done_14 f_Gs_64 rfl (in_sh rfl (by assumption)) rfl rfl (hC.2.2.2.2 h hh h70).1.1 ?_
      refine r_goto (tgt := 21) hK d_Gs_done_17 (by decide) ?_
      exact hR.i d_Gs_done_21 rfl (⟨rfl, hC, fun _ _ => rfl⟩)
theorem c_Gs_early (hg : Gok g) (hC : CP g.2.1 sl ru s σ) (hA : AI g.2.1 N s) (i : Int32) : Ct l g y_Gs_early 3 [.ref (g.1 0 0), .int i] σ (PC g.2.1 sl ru (erlR g.2.1 s i) σ) := by
  have hw := hA.1.2.1
  have hN := hA.1.2.2.1
  rcases bad_or 3 (by decide) i with hb | ⟨h, hh, rfl⟩
  · have hres : erlR g.2.1 s i = (s, -1) := by unfold erlR; rw [if_pos (Or.inl hb)]
    rw [hres]
    refine ofK hg w_cd_Gs_early (by decide) (by decide) (by first | decide | simp) (by simp [Value.category]) ?_
    intro K hK hR
    have hK : Gd l g "GradientShards" b_Gs_early 2 _ K := hK
    refine r_aload_n hK d_Gs_early_0 rfl rfl ?_
    refine r_iload_n hK d_Gs_early_1 rfl rfl ?_
    refine r_callVI hK d_Gs_early_2 m_Gs_140 rfl (in_fix rfl) (c_Gs_isUp_f hg hb) (by decide) rfl rfl rfl ?_
    refine rn_if_eq (tgt := 20) hK d_Gs_early_5 (by decide) (by first | omega | (split <;> omega)) (fun _ => ?_) (fun hno => absurd hno (by omega))
    refine r_iconst (v := -1) hK d_Gs_early_20 (by decide) ?_
    exact hR.i d_Gs_early_21 rfl (⟨rfl, hC, fun _ _ => rfl⟩)
  · have s8 := (hC.2.2.2.1 h hh).2.2.1
    have hd1 := (hA.2.2.2.1 h hh).1
    by_cases h7 : s.1 7 h 0 = 1
    · have hres : erlR g.2.1 s (nI h) = (s, -1) := by unfold erlR; rw [nI_clamp (by omega), if_pos (Or.inr h7)]
      rw [hres]
      rw [h7] at s8
      refine ofK hg w_cd_Gs_early (by decide) (by decide) (by first | decide | simp) (by simp [Value.category]) ?_
      intro K hK hR
      have hK : Gd l g "GradientShards" b_Gs_early 2 _ K := hK
      refine r_aload_n hK d_Gs_early_0 rfl rfl ?_
      refine r_iload_n hK d_Gs_early_1 rfl rfl ?_
      refine r_callVI hK d_Gs_early_2 m_Gs_140 rfl (in_fix rfl) (c_Gs_isUp_t hg hh s8 (by decide)) (by decide) rfl rfl rfl ?_
      refine rn_if_eq (tgt := 20) hK d_Gs_early_5 (by decide) (by first | omega | (split <;> omega)) (fun _ => ?_) (fun hno => absurd hno (by omega))
      refine r_iconst (v := -1) hK d_Gs_early_20 (by decide) ?_
      exact hR.i d_Gs_early_21 rfl (⟨rfl, hC, fun _ _ => rfl⟩)
    · have hres : erlR g.2.1 s (nI h) = (s, nI (erlN s.1 h g.2.1)) := by unfold erlR; rw [nI_clamp (by omega), if_neg (fun q => q.elim (ok_nI hh (by decide)) h7)]
      rw [hres]
      have h70 : s.1 7 h 0 = 0 := by omega
      rw [h70] at s8
      have hF := c_Sh_earlyNumber (l := l) (g := g) (σ := σ) (h := h) (F := fun v => erl s.1 (3 * v + h) (s.1 1 (3 * v + h) 0 - trn s.1 (3 * v + h))) hg hh hw (fun v hv => by
        obtain ⟨l1, l2, l3, l4, -, -, l7, -⟩ := hA.2.2.1 (3 * v + h) (by omega)
        obtain ⟨y9, -, -, y15⟩ := (hC.2.2.2.2 h hh h70).2 v hv
        exact c_Lk_earlyNumber hg (by omega) (hC.2.2.1 (3 * v + h) (by omega)).2.2.1 y9 (by omega) (trn_le _ _) y15 l7)
      refine ofK hg w_cd_Gs_early (by decide) (by decide) (by first | decide | simp) (by simp [Value.category]) ?_
      intro K hK hR
      have hK : Gd l g "GradientShards" b_Gs_early 2 _ K := hK
      refine r_aload_n hK d_Gs_early_0 rfl rfl ?_
      refine r_iload_n hK d_Gs_early_1 rfl rfl ?_
      refine r_callVI hK d_Gs_early_2 m_Gs_140 rfl (in_fix rfl) (c_Gs_isUp_t hg hh s8 (by decide)) (by decide) rfl rfl rfl ?_
      refine rn_if_eq (tgt := 20) hK d_Gs_early_5 (by decide) (by first | omega | (split <;> omega)) (fun hno => absurd hno (by omega)) (fun _ => ?_)
      refine r_aload_n hK d_Gs_early_8 rfl rfl ?_
      refine r_getR hK d_Gs_early_9 f_Gs_19 rfl (in_fix rfl) rfl rfl ?_
      refine r_iload_n hK d_Gs_early_12 rfl rfl ?_
      refine r_aald hK d_Gs_early_13 rfl (Or.inl rfl) (in_fix rfl) (ix_nI (j := h) (by omega)) hh rfl ?_
      refine r_callVI hK d_Gs_early_14 m_Gs_161 rfl (in_sh rfl (by assumption)) (hF) (by decide) rfl rfl rfl ?_
      refine r_goto (tgt := 21) hK d_Gs_early_17 (by decide) ?_
      exact hR.i d_Gs_early_21 rfl (⟨rfl, hC, fun _ _ => rfl⟩)
theorem c_Gs_kept (hg : Gok g) (hC : CP g.2.1 sl ru s σ) (hA : AI g.2.1 N s) (i k : Int32) : Ct l g y_Gs_kept 1 [.ref (g.1 0 0), .int i, .int k] σ (PC g.2.1 sl ru (kepR g.2.1 s i k) σ) := by
  have hw := hA.1.2.1
  rcases bad_or g.2.1 (by omega) i with hb | ⟨v, hv, rfl⟩
  · have hres : kepR g.2.1 s i k = (s, -1) := by unfold kepR; rw [if_pos (Or.inl hb)]
    rw [hres]
    refine ofK hg w_cd_Gs_kept (by decide) (by decide) (by first | decide | simp) (by simp [Value.category]) ?_
    intro K hK hR
    have hK : Gd l g "GradientShards" b_Gs_kept 3 _ K := hK
    refine r_aload_n hK d_Gs_kept_0 rfl rfl ?_
    refine r_iload_n hK d_Gs_kept_1 rfl rfl ?_
    refine r_callVI hK d_Gs_kept_2 m_Gs_33 rfl (in_fix rfl) (c_Gs_isWorker_f hg hb) (by decide) rfl rfl rfl ?_
    refine rn_if_eq (tgt := 27) hK d_Gs_kept_5 (by decide) (by first | omega | (split <;> omega)) (fun _ => ?_) (fun hno => absurd hno (by omega))
    refine r_iconst (v := -1) hK d_Gs_kept_27 (by decide) ?_
    exact hR.i d_Gs_kept_28 rfl (⟨rfl, hC, fun _ _ => rfl⟩)
  · rcases bad_or 3 (by decide) k with hb2 | ⟨h, hh, rfl⟩
    · have hres : kepR g.2.1 s (nI v) k = (s, -1) := by unfold kepR; rw [if_pos (Or.inr hb2)]
      rw [hres]
      refine ofK hg w_cd_Gs_kept (by decide) (by decide) (by first | decide | simp) (by simp [Value.category]) ?_
      intro K hK hR
      have hK : Gd l g "GradientShards" b_Gs_kept 3 _ K := hK
      refine r_aload_n hK d_Gs_kept_0 rfl rfl ?_
      refine r_iload_n hK d_Gs_kept_1 rfl rfl ?_
      refine r_callVI hK d_Gs_kept_2 m_Gs_33 rfl (in_fix rfl) (c_Gs_isWorker_t hg hv hw) (by decide) rfl rfl rfl ?_
      refine rn_if_eq (tgt := 27) hK d_Gs_kept_5 (by decide) (by first | omega | (split <;> omega)) (fun hno => absurd hno (by omega)) (fun _ => ?_)
      refine r_iload_n hK d_Gs_kept_8 rfl rfl ?_
      refine r_callSI hK d_Gs_kept_9 m_Gs_146 (c_Gs_isShard_f hg hb2) (by decide) rfl rfl rfl ?_
      refine rn_if_eq (tgt := 27) hK d_Gs_kept_12 (by decide) (by first | omega | (split <;> omega)) (fun _ => ?_) (fun hno => absurd hno (by omega))
      refine r_iconst (v := -1) hK d_Gs_kept_27 (by decide) ?_
      exact hR.i d_Gs_kept_28 rfl (⟨rfl, hC, fun _ _ => rfl⟩)
    · have hres : kepR g.2.1 s (nI v) (nI h) = (s, nI (keq s (3 * v + h))) := by unfold kepR; rw [if_neg (fun q => q.elim (ok_nI hv (by omega)) (ok_nI hh (by decide))), nI_clamp (by omega), nI_clamp (by omega)]
      rw [hres]
      have hlk : 3 * v + h < 3 * g.2.1 := by omega
      obtain ⟨p0, p1, p6, p7, p8, -, -⟩ := hC.2.2.1 (3 * v + h) hlk
      obtain ⟨l1, l2, l3, l4, -⟩ := hA.2.2.1 (3 * v + h) hlk
      refine ofK hg w_cd_Gs_kept (by decide) (by decide) (by first | decide | simp) (by simp [Value.category]) ?_
      intro K hK hR
      have hK : Gd l g "GradientShards" b_Gs_kept 3 _ K := hK
      refine r_aload_n hK d_Gs_kept_0 rfl rfl ?_
      refine r_iload_n hK d_Gs_kept_1 rfl rfl ?_
      refine r_callVI hK d_Gs_kept_2 m_Gs_33 rfl (in_fix rfl) (c_Gs_isWorker_t hg hv hw) (by decide) rfl rfl rfl ?_
      refine rn_if_eq (tgt := 27) hK d_Gs_kept_5 (by decide) (by first | omega | (split <;> omega)) (fun hno => absurd hno (by omega)) (fun _ => ?_)
      refine r_iload_n hK d_Gs_kept_8 rfl rfl ?_
      refine r_callSI hK d_Gs_kept_9 m_Gs_146 (c_Gs_isShard_t hg hh) (by decide) rfl rfl rfl ?_
      refine rn_if_eq (tgt := 27) hK d_Gs_kept_12 (by decide) (by first | omega | (split <;> omega)) (fun hno => absurd hno (by omega)) (fun _ => ?_)
      refine r_aload_n hK d_Gs_kept_15 rfl rfl ?_
      refine r_iload_n hK d_Gs_kept_16 rfl rfl ?_
      refine r_iload_n hK d_Gs_kept_17 rfl rfl ?_
      refine r_callVR hK d_Gs_kept_18 m_Gs_43 rfl (in_fix rfl) (c_Gs_linkOf hg hh hv hw) (by decide) rfl rfl rfl ?_
      refine r_callVI hK d_Gs_kept_21 m_Gs_47 rfl (in_lk rfl (by assumption)) (c_Lk_keptNumber hg hlk p6 p7 (by omega)) (by decide) rfl rfl rfl ?_
      refine r_goto (tgt := 28) hK d_Gs_kept_24 (by decide) ?_
      exact hR.i d_Gs_kept_28 rfl (⟨rfl, hC, fun _ _ => rfl⟩)
theorem c_Gs_unconfirmed (hg : Gok g) (hC : CP g.2.1 sl ru s σ) (hA : AI g.2.1 N s) (i k : Int32) : Ct l g y_Gs_unconfirmed 1 [.ref (g.1 0 0), .int i, .int k] σ (PC g.2.1 sl ru (uncR g.2.1 s i k) σ) := by
  have hw := hA.1.2.1
  rcases bad_or g.2.1 (by omega) i with hb | ⟨v, hv, rfl⟩
  · have hres : uncR g.2.1 s i k = (s, -1) := by unfold uncR; rw [if_pos (Or.inl hb)]
    rw [hres]
    refine ofK hg w_cd_Gs_unconfirmed (by decide) (by decide) (by first | decide | simp) (by simp [Value.category]) ?_
    intro K hK hR
    have hK : Gd l g "GradientShards" b_Gs_unconfirmed 3 _ K := hK
    refine r_aload_n hK d_Gs_unconfirmed_0 rfl rfl ?_
    refine r_iload_n hK d_Gs_unconfirmed_1 rfl rfl ?_
    refine r_callVI hK d_Gs_unconfirmed_2 m_Gs_33 rfl (in_fix rfl) (c_Gs_isWorker_f hg hb) (by decide) rfl rfl rfl ?_
    refine rn_if_eq (tgt := 27) hK d_Gs_unconfirmed_5 (by decide) (by first | omega | (split <;> omega)) (fun _ => ?_) (fun hno => absurd hno (by omega))
    refine r_iconst (v := -1) hK d_Gs_unconfirmed_27 (by decide) ?_
    exact hR.i d_Gs_unconfirmed_28 rfl (⟨rfl, hC, fun _ _ => rfl⟩)
  · rcases bad_or 3 (by decide) k with hb2 | ⟨h, hh, rfl⟩
    · have hres : uncR g.2.1 s (nI v) k = (s, -1) := by unfold uncR; rw [if_pos (Or.inr hb2)]
      rw [hres]
      refine ofK hg w_cd_Gs_unconfirmed (by decide) (by decide) (by first | decide | simp) (by simp [Value.category]) ?_
      intro K hK hR
      have hK : Gd l g "GradientShards" b_Gs_unconfirmed 3 _ K := hK
      refine r_aload_n hK d_Gs_unconfirmed_0 rfl rfl ?_
      refine r_iload_n hK d_Gs_unconfirmed_1 rfl rfl ?_
      refine r_callVI hK d_Gs_unconfirmed_2 m_Gs_33 rfl (in_fix rfl) (c_Gs_isWorker_t hg hv hw) (by decide) rfl rfl rfl ?_
      refine rn_if_eq (tgt := 27) hK d_Gs_unconfirmed_5 (by decide) (by first | omega | (split <;> omega)) (fun hno => absurd hno (by omega)) (fun _ => ?_)
      refine r_iload_n hK d_Gs_unconfirmed_8 rfl rfl ?_
      refine r_callSI hK d_Gs_unconfirmed_9 m_Gs_146 (c_Gs_isShard_f hg hb2) (by decide) rfl rfl rfl ?_
      refine rn_if_eq (tgt := 27) hK d_Gs_unconfirmed_12 (by decide) (by first | omega | (split <;> omega)) (fun _ => ?_) (fun hno => absurd hno (by omega))
      refine r_iconst (v := -1) hK d_Gs_unconfirmed_27 (by decide) ?_
      exact hR.i d_Gs_unconfirmed_28 rfl (⟨rfl, hC, fun _ _ => rfl⟩)
    · have hres : uncR g.2.1 s (nI v) (nI h) = (s, nI (s.1 1 (3 * v + h) 0 - s.1 3 (3 * v + h) 0)) := by unfold uncR; rw [if_neg (fun q => q.elim (ok_nI hv (by omega)) (ok_nI hh (by decide))), nI_clamp (by omega), nI_clamp (by omega)]
      rw [hres]
      have hlk : 3 * v + h < 3 * g.2.1 := by omega
      obtain ⟨p0, p1, p6, p7, p8, -, -⟩ := hC.2.2.1 (3 * v + h) hlk
      obtain ⟨l1, l2, l3, l4, -⟩ := hA.2.2.1 (3 * v + h) hlk
      refine ofK hg w_cd_Gs_unconfirmed (by decide) (by decide) (by first | decide | simp) (by simp [Value.category]) ?_
      intro K hK hR
      have hK : Gd l g "GradientShards" b_Gs_unconfirmed 3 _ K := hK
      refine r_aload_n hK d_Gs_unconfirmed_0 rfl rfl ?_
      refine r_iload_n hK d_Gs_unconfirmed_1 rfl rfl ?_
      refine r_callVI hK d_Gs_unconfirmed_2 m_Gs_33 rfl (in_fix rfl) (c_Gs_isWorker_t hg hv hw) (by decide) rfl rfl rfl ?_
      refine rn_if_eq (tgt := 27) hK d_Gs_unconfirmed_5 (by decide) (by first | omega | (split <;> omega)) (fun hno => absurd hno (by omega)) (fun _ => ?_)
      refine r_iload_n hK d_Gs_unconfirmed_8 rfl rfl ?_
      refine r_callSI hK d_Gs_unconfirmed_9 m_Gs_146 (c_Gs_isShard_t hg hh) (by decide) rfl rfl rfl ?_
      refine rn_if_eq (tgt := 27) hK d_Gs_unconfirmed_12 (by decide) (by first | omega | (split <;> omega)) (fun hno => absurd hno (by omega)) (fun _ => ?_)
      refine r_aload_n hK d_Gs_unconfirmed_15 rfl rfl ?_
      refine r_iload_n hK d_Gs_unconfirmed_16 rfl rfl ?_
      refine r_iload_n hK d_Gs_unconfirmed_17 rfl rfl ?_
      refine r_callVR hK d_Gs_unconfirmed_18 m_Gs_43 rfl (in_fix rfl) (c_Gs_linkOf hg hh hv hw) (by decide) rfl rfl rfl ?_
      refine r_callVI hK d_Gs_unconfirmed_21 m_Gs_164 rfl (in_lk rfl (by assumption)) (c_Lk_unconfirmedNumber hg hlk p6 p8 l2) (by decide) rfl rfl rfl ?_
      refine r_goto (tgt := 28) hK d_Gs_unconfirmed_24 (by decide) ?_
      exact hR.i d_Gs_unconfirmed_28 rfl (⟨rfl, hC, fun _ _ => rfl⟩)
theorem c_Gs_packets (hg : Gok g) (hC : CP g.2.1 sl ru s σ) : Ct l g y_Gs_packets 1 [.ref (g.1 0 0)] σ (PC g.2.1 sl ru (pksR s) σ) := by
  refine ofK hg w_cd_Gs_packets (by decide) (by decide) (by first | decide | simp) (by simp [Value.category]) ?_
  intro K hK hR
  have hK : Gd l g "GradientShards" b_Gs_packets 1 _ K := hK
  refine r_aload_n hK d_Gs_packets_0 rfl rfl ?_
  refine r_getR hK d_Gs_packets_1 f_Gs_29 rfl (in_fix rfl) rfl rfl ?_
  refine r_getI hK d_Gs_packets_4 f_Gs_131 rfl (in_fix rfl) rfl rfl hC.2.1.1 ?_
  exact hR.i d_Gs_packets_7 rfl (⟨rfl, hC, fun _ _ => rfl⟩)
theorem c_Gs_packet (hg : Gok g) (hC : CP g.2.1 sl ru s σ) (hA : AI g.2.1 N s) (i : Int32) : Ct l g y_Gs_packet 1 [.ref (g.1 0 0), .int i] σ (PC g.2.1 sl ru (pktR s i) σ) := by
  obtain ⟨n1, n2, n3, n4⟩ := hC.2.1
  have hlen := hA.1.2.2.2.1
  rcases bad_or s.2.length (by omega) i with hb | ⟨j, hj, rfl⟩
  · have hres : pktR s i = (s, -1) := by unfold pktR; rw [if_pos hb]
    rw [hres]
    refine ofK hg w_cd_Gs_packet (by decide) (by decide) (by first | decide | simp) (by simp [Value.category]) ?_
    intro K hK hR
    have hK : Gd l g "GradientShards" b_Gs_packet 2 _ K := hK
    refine r_aload_n hK d_Gs_packet_0 rfl rfl ?_
    refine r_getR hK d_Gs_packet_1 f_Gs_29 rfl (in_fix rfl) rfl rfl ?_
    refine r_iload_n hK d_Gs_packet_4 rfl rfl ?_
    refine r_callVI hK d_Gs_packet_5 m_Gs_74 rfl (in_fix rfl) (c_Nt_holds_f hg n1 hb) (by decide) rfl rfl rfl ?_
    refine rn_if_eq (tgt := 23) hK d_Gs_packet_8 (by decide) (by first | omega | (split <;> omega)) (fun _ => ?_) (fun hno => absurd hno (by omega))
    refine r_iconst (v := -1) hK d_Gs_packet_23 (by decide) ?_
    exact hR.i d_Gs_packet_24 rfl (⟨rfl, hC, fun _ _ => rfl⟩)
  · have hres : pktR s (nI j) = (s, nI (s.2.getD j 0)) := by unfold pktR; rw [if_neg (ok_nI hj (by omega)), nI_clamp (by omega)]
    rw [hres]
    refine ofK hg w_cd_Gs_packet (by decide) (by decide) (by first | decide | simp) (by simp [Value.category]) ?_
    intro K hK hR
    have hK : Gd l g "GradientShards" b_Gs_packet 2 _ K := hK
    refine r_aload_n hK d_Gs_packet_0 rfl rfl ?_
    refine r_getR hK d_Gs_packet_1 f_Gs_29 rfl (in_fix rfl) rfl rfl ?_
    refine r_iload_n hK d_Gs_packet_4 rfl rfl ?_
    refine r_callVI hK d_Gs_packet_5 m_Gs_74 rfl (in_fix rfl) (c_Nt_holds_t hg n1 hj hlen) (by decide) rfl rfl rfl ?_
    refine rn_if_eq (tgt := 23) hK d_Gs_packet_8 (by decide) (by first | omega | (split <;> omega)) (fun hno => absurd hno (by omega)) (fun _ => ?_)
    refine r_aload_n hK d_Gs_packet_11 rfl rfl ?_
    refine r_getR hK d_Gs_packet_12 f_Gs_29 rfl (in_fix rfl) rfl rfl ?_
    refine r_getR hK d_Gs_packet_15 f_Gs_77 rfl (in_fix rfl) rfl rfl ?_
    refine r_iload_n hK d_Gs_packet_18 rfl rfl ?_
    refine r_iald hK d_Gs_packet_19 rfl rfl (in_fix rfl) (ix_nI (j := j) (by omega)) (by show j < 24; omega) (n4 j _ (pk_get hj)) ?_
    refine r_goto (tgt := 24) hK d_Gs_packet_20 (by decide) ?_
    exact hR.i d_Gs_packet_24 rfl (⟨rfl, hC, fun _ _ => rfl⟩)
theorem c_Gs_clock (hg : Gok g) (hC : CP g.2.1 sl ru s σ) (hA : AI g.2.1 N s) (i : Int32) : Ct l g y_Gs_clock 1 [.ref (g.1 0 0), .int i] σ (PC g.2.1 sl ru (clkR g.2.1 s i) σ) := by
  have hw := hA.1.2.1
  rcases bad_or g.2.1 (by omega) i with hb | ⟨v, hv, rfl⟩
  · have hres : clkR g.2.1 s i = (s, -1) := by unfold clkR; rw [if_pos hb]
    rw [hres]
    refine ofK hg w_cd_Gs_clock (by decide) (by decide) (by first | decide | simp) (by simp [Value.category]) ?_
    intro K hK hR
    have hK : Gd l g "GradientShards" b_Gs_clock 2 _ K := hK
    refine r_aload_n hK d_Gs_clock_0 rfl rfl ?_
    refine r_iload_n hK d_Gs_clock_1 rfl rfl ?_
    refine r_callVI hK d_Gs_clock_2 m_Gs_33 rfl (in_fix rfl) (c_Gs_isWorker_f hg hb) (by decide) rfl rfl rfl ?_
    refine rn_if_eq (tgt := 17) hK d_Gs_clock_5 (by decide) (by first | omega | (split <;> omega)) (fun _ => ?_) (fun hno => absurd hno (by omega))
    refine r_iconst (v := -1) hK d_Gs_clock_17 (by decide) ?_
    exact hR.i d_Gs_clock_18 rfl (⟨rfl, hC, fun _ _ => rfl⟩)
  · have hres : clkR g.2.1 s (nI v) = (s, nI (s.1 0 v 0)) := by unfold clkR; rw [if_neg (ok_nI hv (by omega)), nI_clamp (by omega)]
    rw [hres]
    refine ofK hg w_cd_Gs_clock (by decide) (by decide) (by first | decide | simp) (by simp [Value.category]) ?_
    intro K hK hR
    have hK : Gd l g "GradientShards" b_Gs_clock 2 _ K := hK
    refine r_aload_n hK d_Gs_clock_0 rfl rfl ?_
    refine r_iload_n hK d_Gs_clock_1 rfl rfl ?_
    refine r_callVI hK d_Gs_clock_2 m_Gs_33 rfl (in_fix rfl) (c_Gs_isWorker_t hg hv hw) (by decide) rfl rfl rfl ?_
    refine rn_if_eq (tgt := 17) hK d_Gs_clock_5 (by decide) (by first | omega | (split <;> omega)) (fun hno => absurd hno (by omega)) (fun _ => ?_)
    refine r_aload_n hK d_Gs_clock_8 rfl rfl ?_
    refine r_getR hK d_Gs_clock_9 f_Gs_13 rfl (in_fix rfl) rfl rfl ?_
    refine r_iload_n hK d_Gs_clock_12 rfl rfl ?_
    refine r_iald hK d_Gs_clock_13 rfl rfl (in_fix rfl) (ix_nI (j := v) (by omega)) hv (hC.1.2.2.2.2.2.2 v hv) ?_
    refine r_goto (tgt := 18) hK d_Gs_clock_14 (by decide) ?_
    exact hR.i d_Gs_clock_18 rfl (⟨rfl, hC, fun _ _ => rfl⟩)
end Gs4
