/-! GradientShards: its private methods -/
theorem ua_comm (a : Ab) {t i j t2 i2 j2 : Nat} (v w : Nat) (h : ¬ (t = t2 ∧ i = i2 ∧ j = j2)) : ua (ua a t i j v) t2 i2 j2 w = ua (ua a t2 i2 j2 w) t i j v := by
  funext t' i' j'
  unfold ua
  by_cases h1 : t' = t2 ∧ i' = i2 ∧ j' = j2
  · rw [if_pos h1, if_neg (fun q => h ⟨q.1.symm.trans h1.1, q.2.1.symm.trans h1.2.1, q.2.2.symm.trans h1.2.2⟩), if_pos h1]
  · rw [if_neg h1, if_neg h1]
def mmC (σ : Sg) (x n t c : Nat) (p q : Int32) : Sg := sdC (up (apC σ x n p q) 14 x (n % 32) (nI t)) c (nI (cod 0 x n))
section Gs
variable {l : Launch} {g : Gc} {σ : Sg}
theorem c_Gs_isWorker_t (hg : Gok g) {v : Nat} (hv : v < g.2.1) (hw : g.2.1 ≤ 4) : CI l g y_Gs_isWorker 0 [.ref (g.1 0 0), .int (nI v)] σ (nI 1) σ := by
  refine ofK hg w_cd_Gs_isWorker (by decide) (by decide) (by first | decide | simp) (by simp [Value.category]) ?_
  intro K hK hR
  have hK : Gd l g "GradientShards" b_Gs_isWorker 2 _ K := hK
  refine r_iload_n hK d_Gs_isWorker_0 rfl rfl ?_
  refine r_if_lt (tgt := 17) hK d_Gs_isWorker_1 (by decide) (fun hno => absurd hno (nI_pos (by omega))) (fun _ => ?_)
  refine r_iload_n hK d_Gs_isWorker_4 rfl rfl ?_
  refine r_aload_n hK d_Gs_isWorker_5 rfl rfl ?_
  refine r_getR hK d_Gs_isWorker_6 f_Gs_13 rfl (in_fix rfl) rfl rfl ?_
  refine r_alen hK d_Gs_isWorker_9 rfl rfl (in_fix rfl) ?_
  have ea : al g.2.1 1 = g.2.1 := rfl
  refine rn_icmp_ge (tgt := 17) hK d_Gs_isWorker_10 (by decide) (by first | omega | (split <;> omega)) (by first | omega | (split <;> omega)) (fun hno => absurd hno (by omega)) (fun _ => ?_)
  refine r_iconst (v := nI 1) hK d_Gs_isWorker_13 (by decide) ?_
  refine r_goto (tgt := 18) hK d_Gs_isWorker_14 (by decide) ?_
  exact hR.i d_Gs_isWorker_18 rfl (⟨rfl, rfl⟩)
theorem c_Gs_isWorker_f (hg : Gok g) {i : Int32} (hi : i < 0 ∨ nI g.2.1 ≤ i) : CI l g y_Gs_isWorker 0 [.ref (g.1 0 0), .int i] σ (nI 0) σ := by
  refine ofK hg w_cd_Gs_isWorker (by decide) (by decide) (by first | decide | simp) (by simp [Value.category]) ?_
  intro K hK hR
  have hK : Gd l g "GradientShards" b_Gs_isWorker 2 _ K := hK
  refine r_iload_n hK d_Gs_isWorker_0 rfl rfl ?_
  refine r_if_lt (tgt := 17) hK d_Gs_isWorker_1 (by decide) (fun h1 => ?_) (fun h1 => ?_)
  · refine r_iconst (v := nI 0) hK d_Gs_isWorker_17 (by decide) ?_
    exact hR.i d_Gs_isWorker_18 rfl (⟨rfl, rfl⟩)
  · refine r_iload_n hK d_Gs_isWorker_4 rfl rfl ?_
    refine r_aload_n hK d_Gs_isWorker_5 rfl rfl ?_
    refine r_getR hK d_Gs_isWorker_6 f_Gs_13 rfl (in_fix rfl) rfl rfl ?_
    refine r_alen hK d_Gs_isWorker_9 rfl rfl (in_fix rfl) ?_
    refine r_icmp_ge (tgt := 17) hK d_Gs_isWorker_10 (by decide) (fun _ => ?_) (fun hno => absurd (hi.resolve_left h1) hno)
    refine r_iconst (v := nI 0) hK d_Gs_isWorker_17 (by decide) ?_
    exact hR.i d_Gs_isWorker_18 rfl (⟨rfl, rfl⟩)
theorem c_Gs_isKey_t (hg : Gok g) {v : Nat} (hv : v < 6) : CI l g y_Gs_isKey 0 [.int (nI v)] σ (nI 1) σ := by
  refine ofK hg w_cd_Gs_isKey (by decide) (by decide) (by first | decide | simp) (by simp [Value.category]) ?_
  intro K hK hR
  have hK : Gd l g "GradientShards" b_Gs_isKey 1 _ K := hK
  refine r_iload_n hK d_Gs_isKey_0 rfl rfl ?_
  refine r_if_lt (tgt := 14) hK d_Gs_isKey_1 (by decide) (fun hno => absurd hno (nI_pos (by omega))) (fun _ => ?_)
  refine r_iload_n hK d_Gs_isKey_4 rfl rfl ?_
  refine r_bipush (v := nI 6) hK d_Gs_isKey_5 (by decide) ?_
  refine rn_icmp_ge (tgt := 14) hK d_Gs_isKey_7 (by decide) (by first | omega | (split <;> omega)) (by first | omega | (split <;> omega)) (fun hno => absurd hno (by omega)) (fun _ => ?_)
  refine r_iconst (v := nI 1) hK d_Gs_isKey_10 (by decide) ?_
  refine r_goto (tgt := 15) hK d_Gs_isKey_11 (by decide) ?_
  exact hR.i d_Gs_isKey_15 rfl (⟨rfl, rfl⟩)
theorem c_Gs_isKey_f (hg : Gok g) {i : Int32} (hi : i < 0 ∨ nI 6 ≤ i) : CI l g y_Gs_isKey 0 [.int i] σ (nI 0) σ := by
  refine ofK hg w_cd_Gs_isKey (by decide) (by decide) (by first | decide | simp) (by simp [Value.category]) ?_
  intro K hK hR
  have hK : Gd l g "GradientShards" b_Gs_isKey 1 _ K := hK
  refine r_iload_n hK d_Gs_isKey_0 rfl rfl ?_
  refine r_if_lt (tgt := 14) hK d_Gs_isKey_1 (by decide) (fun h1 => ?_) (fun h1 => ?_)
  · refine r_iconst (v := nI 0) hK d_Gs_isKey_14 (by decide) ?_
    exact hR.i d_Gs_isKey_15 rfl (⟨rfl, rfl⟩)
  · refine r_iload_n hK d_Gs_isKey_4 rfl rfl ?_
    refine r_bipush (v := nI 6) hK d_Gs_isKey_5 (by decide) ?_
    refine r_icmp_ge (tgt := 14) hK d_Gs_isKey_7 (by decide) (fun _ => ?_) (fun hno => absurd (hi.resolve_left h1) hno)
    refine r_iconst (v := nI 0) hK d_Gs_isKey_14 (by decide) ?_
    exact hR.i d_Gs_isKey_15 rfl (⟨rfl, rfl⟩)
theorem c_Gs_isShard_t (hg : Gok g) {v : Nat} (hv : v < 3) : CI l g y_Gs_isShard 0 [.int (nI v)] σ (nI 1) σ := by
  refine ofK hg w_cd_Gs_isShard (by decide) (by decide) (by first | decide | simp) (by simp [Value.category]) ?_
  intro K hK hR
  have hK : Gd l g "GradientShards" b_Gs_isShard 1 _ K := hK
  refine r_iload_n hK d_Gs_isShard_0 rfl rfl ?_
  refine r_if_lt (tgt := 13) hK d_Gs_isShard_1 (by decide) (fun hno => absurd hno (nI_pos (by omega))) (fun _ => ?_)
  refine r_iload_n hK d_Gs_isShard_4 rfl rfl ?_
  refine r_iconst (v := nI 3) hK d_Gs_isShard_5 (by decide) ?_
  refine rn_icmp_ge (tgt := 13) hK d_Gs_isShard_6 (by decide) (by first | omega | (split <;> omega)) (by first | omega | (split <;> omega)) (fun hno => absurd hno (by omega)) (fun _ => ?_)
  refine r_iconst (v := nI 1) hK d_Gs_isShard_9 (by decide) ?_
  refine r_goto (tgt := 14) hK d_Gs_isShard_10 (by decide) ?_
  exact hR.i d_Gs_isShard_14 rfl (⟨rfl, rfl⟩)
theorem c_Gs_isShard_f (hg : Gok g) {i : Int32} (hi : i < 0 ∨ nI 3 ≤ i) : CI l g y_Gs_isShard 0 [.int i] σ (nI 0) σ := by
  refine ofK hg w_cd_Gs_isShard (by decide) (by decide) (by first | decide | simp) (by simp [Value.category]) ?_
  intro K hK hR
  have hK : Gd l g "GradientShards" b_Gs_isShard 1 _ K := hK
  refine r_iload_n hK d_Gs_isShard_0 rfl rfl ?_
  refine r_if_lt (tgt := 13) hK d_Gs_isShard_1 (by decide) (fun h1 => ?_) (fun h1 => ?_)
  · refine r_iconst (v := nI 0) hK d_Gs_isShard_13 (by decide) ?_
    exact hR.i d_Gs_isShard_14 rfl (⟨rfl, rfl⟩)
  · refine r_iload_n hK d_Gs_isShard_4 rfl rfl ?_
    refine r_iconst (v := nI 3) hK d_Gs_isShard_5 (by decide) ?_
    refine r_icmp_ge (tgt := 13) hK d_Gs_isShard_6 (by decide) (fun _ => ?_) (fun hno => absurd (hi.resolve_left h1) hno)
    refine r_iconst (v := nI 0) hK d_Gs_isShard_13 (by decide) ?_
    exact hR.i d_Gs_isShard_14 rfl (⟨rfl, rfl⟩)
theorem c_Gs_isUp_t (hg : Gok g) {h u : Nat} (hh : h < 3) (hu : σ 5 h 8 = nI u) (hu1 : u ≤ 1) : CI l g y_Gs_isUp 1 [.ref (g.1 0 0), .int (nI h)] σ (nI u) σ := by
  refine ofK hg w_cd_Gs_isUp (by decide) (by decide) (by first | decide | simp) (by simp [Value.category]) ?_
  intro K hK hR
  have hK : Gd l g "GradientShards" b_Gs_isUp 2 _ K := hK
  refine r_iload_n hK d_Gs_isUp_0 rfl rfl ?_
  refine r_callSI hK d_Gs_isUp_1 m_Gs_146 (c_Gs_isShard_t hg hh) (by decide) rfl rfl rfl ?_
  refine rn_if_eq (tgt := 23) hK d_Gs_isUp_4 (by decide) (by first | omega | (split <;> omega)) (fun hno => absurd hno (by omega)) (fun _ => ?_)
  refine r_aload_n hK d_Gs_isUp_7 rfl rfl ?_
  refine r_getR hK d_Gs_isUp_8 f_Gs_19 rfl (in_fix rfl) rfl rfl ?_
  refine r_iload_n hK d_Gs_isUp_11 rfl rfl ?_
  refine r_aald hK d_Gs_isUp_12 rfl (Or.inl rfl) (in_fix rfl) (ix_nI (j := h) (by omega)) hh rfl ?_
  refine r_getI hK d_Gs_isUp_13 f_Gs_60 rfl (in_sh rfl (by assumption)) rfl rfl hu ?_
  refine rn_if_eq (tgt := 23) hK d_Gs_isUp_16 (by decide) (by first | omega | (split <;> omega)) (fun q => ?_) (fun q => ?_)
  · refine r_iconst (v := nI 0) hK d_Gs_isUp_23 (by decide) ?_
    exact hR.i d_Gs_isUp_24 rfl (⟨by first | rw [q] | rw [show u = 1 by omega], rfl⟩)
  · refine r_iconst (v := nI 1) hK d_Gs_isUp_19 (by decide) ?_
    refine r_goto (tgt := 24) hK d_Gs_isUp_20 (by decide) ?_
    exact hR.i d_Gs_isUp_24 rfl (⟨by first | rw [q] | rw [show u = 1 by omega], rfl⟩)
theorem c_Gs_isUp_f (hg : Gok g) {i : Int32} (hi : i < 0 ∨ nI 3 ≤ i) : CI l g y_Gs_isUp 1 [.ref (g.1 0 0), .int i] σ (nI 0) σ := by
  refine ofK hg w_cd_Gs_isUp (by decide) (by decide) (by first | decide | simp) (by simp [Value.category]) ?_
  intro K hK hR
  have hK : Gd l g "GradientShards" b_Gs_isUp 2 _ K := hK
  refine r_iload_n hK d_Gs_isUp_0 rfl rfl ?_
  refine r_callSI hK d_Gs_isUp_1 m_Gs_146 (c_Gs_isShard_f hg hi) (by decide) rfl rfl rfl ?_
  refine rn_if_eq (tgt := 23) hK d_Gs_isUp_4 (by decide) (by first | omega | (split <;> omega)) (fun _ => ?_) (fun hno => absurd hno (by omega))
  refine r_iconst (v := nI 0) hK d_Gs_isUp_23 (by decide) ?_
  exact hR.i d_Gs_isUp_24 rfl (⟨rfl, rfl⟩)
theorem c_Gs_linkOf (hg : Gok g) {h v : Nat} (hh : h < 3) (hv : v < g.2.1) (hw : g.2.1 ≤ 4) : CR l g y_Gs_linkOf 0 [.ref (g.1 0 0), .int (nI v), .int (nI h)] σ (g.1 11 (3 * v + h)) σ := by
  refine ofK hg w_cd_Gs_linkOf (by decide) (by decide) (by first | decide | simp) (by simp [Value.category]) ?_
  intro K hK hR
  have hK : Gd l g "GradientShards" b_Gs_linkOf 3 _ K := hK
  refine r_aload_n hK d_Gs_linkOf_0 rfl rfl ?_
  refine r_getR hK d_Gs_linkOf_1 f_Gs_19 rfl (in_fix rfl) rfl rfl ?_
  refine r_iload_n hK d_Gs_linkOf_4 rfl rfl ?_
  refine r_aald hK d_Gs_linkOf_5 rfl (Or.inl rfl) (in_fix rfl) (ix_nI (j := h) (by omega)) hh rfl ?_
  refine r_getR hK d_Gs_linkOf_6 f_Gs_88 rfl (in_sh rfl (by assumption)) rfl rfl ?_
  refine r_iload_n hK d_Gs_linkOf_9 rfl rfl ?_
  refine r_aald hK d_Gs_linkOf_10 rfl (Or.inr rfl) (in_sh rfl (by assumption)) (ix_nI (j := v) (by omega)) hv rfl ?_
  exact hR.r d_Gs_linkOf_11 (Or.inl ⟨_, rfl⟩) (⟨rfl, rfl⟩)
theorem c_Gs_isHeld (hg : Gok g) {v sl : Nat} {c : Nat → Nat} (hv : v < g.2.1) (hw : g.2.1 ≤ 4) (hc : ∀ i, i < g.2.1 → σ 1 0 i = nI (c i)) (hb : ∀ i, i < g.2.1 → c i < 2 ^ 30) (hs : σ 0 0 0 = nI sl) (hsl : sl < 2 ^ 30) : CI l g y_Gs_isHeld 1 [.ref (g.1 0 0), .int (nI v)] σ (nI (if sl < c v - minF c (c v) g.2.1 then 1 else 0)) σ := by
  have hbv := hb v hv
  refine ofK hg w_cd_Gs_isHeld (by decide) (by decide) (by first | decide | simp) (by simp [Value.category]) ?_
  intro K hK hR
  have hK : Gd l g "GradientShards" b_Gs_isHeld 7 _ K := hK
  have hloop : ∀ d i, i + d = g.2.1 → K 19 [.ref (g.1 0 0), .int (nI v), .int (nI (minF c (c v) i)), .ref (g.1 1 0), .int (nI g.2.1), .int (nI i)] [] σ := by
    intro d
    induction d with
    | zero =>
      intro i hi
      obtain rfl : i = g.2.1 := by omega
      have hml := minF_le c (c v) g.2.1
      refine r_iload hK d_Gs_isHeld_19 rfl ?_
      refine r_iload hK d_Gs_isHeld_21 rfl ?_
      refine rn_icmp_ge (tgt := 45) hK d_Gs_isHeld_23 (by decide) (by first | omega | (split <;> omega)) (by first | omega | (split <;> omega)) (fun _ => ?_) (fun hno => absurd hno (by omega))
      refine r_aload_n hK d_Gs_isHeld_45 rfl rfl ?_
      refine r_getR hK d_Gs_isHeld_46 f_Gs_13 rfl (in_fix rfl) rfl rfl ?_
      refine r_iload_n hK d_Gs_isHeld_49 rfl rfl ?_
      refine r_iald hK d_Gs_isHeld_50 rfl rfl (in_fix rfl) (ix_nI (j := v) (by omega)) hv (hc v hv) ?_
      refine r_iload_n hK d_Gs_isHeld_51 rfl rfl ?_
      refine r_isub hK d_Gs_isHeld_52 (pk_sub (by omega)) ?_
      refine r_aload_n hK d_Gs_isHeld_53 rfl rfl ?_
      refine r_getI hK d_Gs_isHeld_54 f_Gs_7 rfl (in_fix rfl) rfl rfl hs ?_
      refine rn_icmp_le (tgt := 64) hK d_Gs_isHeld_57 (by decide) (by first | omega | (split <;> omega)) (by first | omega | (split <;> omega)) (fun q => ?_) (fun q => ?_)
      · refine r_iconst (v := nI 0) hK d_Gs_isHeld_64 (by decide) ?_
        exact hR.i d_Gs_isHeld_65 rfl (⟨by first | rw [if_pos q] | rw [if_neg (by omega)], rfl⟩)
      · refine r_iconst (v := nI 1) hK d_Gs_isHeld_60 (by decide) ?_
        refine r_goto (tgt := 65) hK d_Gs_isHeld_61 (by decide) ?_
        exact hR.i d_Gs_isHeld_65 rfl (⟨by first | rw [if_pos q] | rw [if_neg (by omega)], rfl⟩)
    | succ d ih =>
      intro i hi
      have hbi := hb i (by omega)
      have hml := minF_le c (c v) i
      refine r_iload hK d_Gs_isHeld_19 rfl ?_
      refine r_iload hK d_Gs_isHeld_21 rfl ?_
      refine rn_icmp_ge (tgt := 45) hK d_Gs_isHeld_23 (by decide) (by first | omega | (split <;> omega)) (by first | omega | (split <;> omega)) (fun hno => absurd hno (by omega)) (fun _ => ?_)
      refine r_aload_n hK d_Gs_isHeld_26 rfl rfl ?_
      refine r_iload hK d_Gs_isHeld_27 rfl ?_
      refine r_iald hK d_Gs_isHeld_29 rfl rfl (in_fix rfl) (ix_nI (j := i) (by omega)) (by show i < g.2.1; omega) (hc i (by omega)) ?_
      refine r_istore hK d_Gs_isHeld_30 rfl rfl ?_
      refine r_iload_n hK d_Gs_isHeld_32 rfl rfl ?_
      refine r_iload hK d_Gs_isHeld_33 rfl ?_
      refine r_mmin hK d_Gs_isHeld_35 a_Gs_176 (by decide) (Nat.le_of_ble_eq_true rfl) ?_
      rw [mn_nI (by omega) (by omega)]
      refine r_istore_n hK d_Gs_isHeld_38 rfl rfl rfl ?_
      refine r_iinc hK d_Gs_isHeld_39 rfl (nI_1 _) rfl ?_
      refine r_goto (tgt := 19) hK d_Gs_isHeld_42 (by decide) ?_
      exact r_drop 6 hK (ih (i + 1) (by omega))
  refine r_aload_n hK d_Gs_isHeld_0 rfl rfl ?_
  refine r_getR hK d_Gs_isHeld_1 f_Gs_13 rfl (in_fix rfl) rfl rfl ?_
  refine r_iload_n hK d_Gs_isHeld_4 rfl rfl ?_
  refine r_iald hK d_Gs_isHeld_5 rfl rfl (in_fix rfl) (ix_nI (j := v) (by omega)) hv (hc v hv) ?_
  refine r_istore_n hK d_Gs_isHeld_6 rfl rfl rfl ?_
  refine r_aload_n hK d_Gs_isHeld_7 rfl rfl ?_
  refine r_getR hK d_Gs_isHeld_8 f_Gs_13 rfl (in_fix rfl) rfl rfl ?_
  refine r_astore_n hK d_Gs_isHeld_11 rfl rfl rfl ?_
  refine r_aload_n hK d_Gs_isHeld_12 rfl rfl ?_
  refine r_alen hK d_Gs_isHeld_13 rfl rfl (in_fix rfl) ?_
  refine r_istore hK d_Gs_isHeld_14 rfl rfl ?_
  refine r_iconst (v := nI 0) hK d_Gs_isHeld_16 (by decide) ?_
  refine r_istore hK d_Gs_isHeld_17 rfl rfl ?_
  exact hloop g.2.1 0 (by omega)
theorem c_Gs_keepsTooMany (hg : Gok g) {v : Nat} {A B : Nat → Nat} (hv : v < g.2.1) (hw : g.2.1 ≤ 4) (h6 : ∀ h, h < 3 → σ 11 (3 * v + h) 6 = nI (A h)) (h7 : ∀ h, h < 3 → σ 11 (3 * v + h) 7 = nI (B h)) (hle : ∀ h, h < 3 → B h ≤ A h ∧ A h < 2 ^ 30) : CI l g y_Gs_keepsTooManyToEnd 1 [.ref (g.1 0 0), .int (nI v)] σ (nI (if A 0 - B 0 < 24 ∧ A 1 - B 1 < 24 ∧ A 2 - B 2 < 24 then 0 else 1)) σ := by
  refine ofK hg w_cd_Gs_keepsTooManyToEnd (by decide) (by decide) (by first | decide | simp) (by simp [Value.category]) ?_
  intro K hK hR
  have hK : Gd l g "GradientShards" b_Gs_keepsTooManyToEnd 3 _ K := hK
  have hloop : ∀ d i, i + d = 3 → (∀ j, j < i → A j - B j < 24) → K 2 [.ref (g.1 0 0), .int (nI v), .int (nI i)] [] σ := by
    intro d
    induction d with
    | zero =>
      intro i hi hall
      obtain rfl : i = 3 := by omega
      refine r_iload_n hK d_Gs_keepsTooManyToEnd_2 rfl rfl ?_
      refine r_iconst (v := nI 3) hK d_Gs_keepsTooManyToEnd_3 (by decide) ?_
      refine rn_icmp_ge (tgt := 29) hK d_Gs_keepsTooManyToEnd_4 (by decide) (by first | omega | (split <;> omega)) (by first | omega | (split <;> omega)) (fun _ => ?_) (fun hno => absurd hno (by omega))
      refine r_iconst (v := nI 0) hK d_Gs_keepsTooManyToEnd_29 (by decide) ?_
      exact hR.i d_Gs_keepsTooManyToEnd_30 rfl (⟨by rw [if_pos ⟨hall 0 (by omega), hall 1 (by omega), hall 2 (by omega)⟩], rfl⟩)
    | succ d ih =>
      intro i hi hall
      have hi3 : i < 3 := by omega
      have hlk : 3 * v + i < 3 * g.2.1 := by omega
      have hl := hle i hi3
      refine r_iload_n hK d_Gs_keepsTooManyToEnd_2 rfl rfl ?_
      refine r_iconst (v := nI 3) hK d_Gs_keepsTooManyToEnd_3 (by decide) ?_
      refine rn_icmp_ge (tgt := 29) hK d_Gs_keepsTooManyToEnd_4 (by decide) (by first | omega | (split <;> omega)) (by first | omega | (split <;> omega)) (fun hno => absurd hno (by omega)) (fun _ => ?_)
      refine r_aload_n hK d_Gs_keepsTooManyToEnd_7 rfl rfl ?_
      refine r_iload_n hK d_Gs_keepsTooManyToEnd_8 rfl rfl ?_
      refine r_iload_n hK d_Gs_keepsTooManyToEnd_9 rfl rfl ?_
      refine r_callVR hK d_Gs_keepsTooManyToEnd_10 m_Gs_43 rfl (in_fix rfl) (c_Gs_linkOf hg hi3 hv hw) (by decide) rfl rfl rfl ?_
      refine r_callVI hK d_Gs_keepsTooManyToEnd_13 m_Gs_47 rfl (in_lk rfl (by assumption)) (c_Lk_keptNumber hg hlk (h6 i hi3) (h7 i hi3) hl.1) (by decide) rfl rfl rfl ?_
      refine r_bipush (v := nI 24) hK d_Gs_keepsTooManyToEnd_16 (by decide) ?_
      refine rn_icmp_lt (tgt := 23) hK d_Gs_keepsTooManyToEnd_18 (by decide) (by first | omega | (split <;> omega)) (by first | omega | (split <;> omega)) (fun q => ?_) (fun q => ?_)
      · refine r_iinc hK d_Gs_keepsTooManyToEnd_23 rfl (nI_1 _) rfl ?_
        refine r_goto (tgt := 2) hK d_Gs_keepsTooManyToEnd_26 (by decide) ?_
        exact ih (i + 1) (by omega) (fun j hj => by by_cases e : j = i; subst e; exact q; exact hall j (by omega))
      · refine r_iconst (v := nI 1) hK d_Gs_keepsTooManyToEnd_21 (by decide) ?_
        exact hR.i d_Gs_keepsTooManyToEnd_22 rfl (⟨by rw [if_neg (fun z => by rcases (by omega : i = 0 ∨ i = 1 ∨ i = 2) with e | e | e <;> subst e <;> omega)], rfl⟩)
  refine r_iconst (v := nI 0) hK d_Gs_keepsTooManyToEnd_0 (by decide) ?_
  refine r_istore_n hK d_Gs_keepsTooManyToEnd_1 rfl rfl rfl ?_
  exact hloop 3 0 (by omega) (fun j hj => absurd hj (Nat.not_lt_zero _))
theorem c_Gs_sendMessage (hg : Gok g) {x n t c : Nat} (hx : x < 3 * g.2.1) (h0 : σ 11 x 0 = nI (x / 3)) (h1 : σ 11 x 1 = nI (x % 3)) (ht : σ 0 0 4 = nI t) (hs : σ 3 0 1 = nI c) (hc : c ≤ 24) (hn : n < 2 ^ 30) : CV l g y_Gs_sendMessage 2 [.ref (g.1 0 0), .ref (g.1 11 x), .int (nI n)] σ (sdC (up σ 14 x (n % 32) (nI t)) c (nI (cod 0 x n))) := by
  refine ofK hg w_cd_Gs_sendMessage (by decide) (by decide) (by first | decide | simp) (by simp [Value.category]) ?_
  intro K hK hR
  have hK : Gd l g "GradientShards" b_Gs_sendMessage 3 _ K := hK
  refine r_aload_n hK d_Gs_sendMessage_0 rfl rfl ?_
  refine r_iload_n hK d_Gs_sendMessage_1 rfl rfl ?_
  refine r_aload_n hK d_Gs_sendMessage_2 rfl rfl ?_
  refine r_getI hK d_Gs_sendMessage_3 f_Gs_115 rfl (in_fix rfl) rfl rfl ht ?_
  refine r_callVV hK d_Gs_sendMessage_6 m_Gs_185 rfl (in_lk rfl (by assumption)) (c_Lk_noteSending hg hx hn) (by decide) rfl rfl rfl ?_
  refine r_aload_n hK d_Gs_sendMessage_9 rfl rfl ?_
  refine r_getR hK d_Gs_sendMessage_10 f_Gs_29 rfl (in_fix rfl) rfl rfl ?_
  refine r_iconst (v := nI 0) hK d_Gs_sendMessage_13 (by decide) ?_
  refine r_aload_n hK d_Gs_sendMessage_14 rfl rfl ?_
  refine r_iload_n hK d_Gs_sendMessage_15 rfl rfl ?_
  refine r_callSI hK d_Gs_sendMessage_16 m_Gs_189 (c_Nt_codeOf hg hx (w := x / 3) (h := x % 3) (by rw [up_k (by decide)]; exact h0) (by rw [up_k (by decide)]; exact h1)) (by decide) rfl rfl rfl ?_
  refine r_callVV hK d_Gs_sendMessage_19 m_Gs_112 rfl (in_fix rfl) (c_Nt_send hg (n := c) (by rw [up_k (by decide)]; exact hs) hc) (by decide) rfl rfl rfl ?_
  exact hR.v d_Gs_sendMessage_22 (⟨rfl, rfl⟩)
theorem c_Gs_makeMessage (hg : Gok g) {x n t c : Nat} {p q : Int32} (hx : x < 3 * g.2.1) (h0 : σ 11 x 0 = nI (x / 3)) (h1 : σ 11 x 1 = nI (x % 3)) (h6 : σ 11 x 6 = nI n) (ht : σ 0 0 4 = nI t) (hs : σ 3 0 1 = nI c) (hc : c ≤ 24) (hn : n < 2 ^ 30) : CV l g y_Gs_makeMessage 3 [.ref (g.1 0 0), .ref (g.1 11 x), .int p, .int q] σ (mmC σ x n t c p q) := by
  have ek : ∀ k, k ≠ 11 → k ≠ 12 → k ≠ 13 → k ≠ 15 → apC σ x n p q k = σ k := fun k h1 h2 h3 h4 => by unfold apC; rw [up_k h1, up_k h4, up_k h3, up_k h2]
  have e11 : ∀ j, j ≠ 6 → apC σ x n p q 11 x j = σ 11 x j := fun j hj => by unfold apC; simp [up_eq, hj]
  refine ofK hg w_cd_Gs_makeMessage (by decide) (by decide) (by first | decide | simp) (by simp [Value.category]) ?_
  intro K hK hR
  have hK : Gd l g "GradientShards" b_Gs_makeMessage 4 _ K := hK
  refine r_aload_n hK d_Gs_makeMessage_0 rfl rfl ?_
  refine r_aload_n hK d_Gs_makeMessage_1 rfl rfl ?_
  refine r_aload_n hK d_Gs_makeMessage_2 rfl rfl ?_
  refine r_iload_n hK d_Gs_makeMessage_3 rfl rfl ?_
  refine r_iload_n hK d_Gs_makeMessage_4 rfl rfl ?_
  refine r_callVI hK d_Gs_makeMessage_5 m_Gs_182 rfl (in_lk rfl (by assumption)) (c_Lk_append hg hx h6 hn) (by decide) rfl rfl rfl ?_
  refine r_callVV hK d_Gs_makeMessage_8 m_Gs_124 rfl (in_fix rfl) (c_Gs_sendMessage hg hx (by rw [e11 0 (by decide)]; exact h0) (by rw [e11 1 (by decide)]; exact h1) (t := t) (by rw [ek 0 (by decide) (by decide) (by decide) (by decide)]; exact ht) (c := c) (by rw [ek 3 (by decide) (by decide) (by decide) (by decide)]; exact hs) hc hn) (by decide) rfl rfl rfl ?_
  exact hR.v d_Gs_makeMessage_11 (⟨rfl, rfl⟩)
end Gs
theorem CP_mkm {w sl ru N : Nat} {s : Sp} {σ : Sg} {x m : Nat} {p q : Int32} (h : CP w sl ru s σ) (hA : AI w N s) (hx : x < 3 * w) (hm : (m = END → p = -1) ∧ (m ≠ END → p = nI (m / 1000 / 3) ∧ q = nI (m % 1000) - nI 100)) : CP w sl ru (mkm s x m) (mmC σ x (s.1 1 x 0) (s.1 12 0 0) s.2.length p q) := by
  obtain ⟨l1, l2, l3, l4, l5, l6, l7, l8, l9, l10⟩ := hA.2.2.1 x hx
  have h1 := CP_app h hx (by omega) (l8 _ (Nat.le_refl _)) (fun k hk h7 v hv => AI_stt hA hk h7 hv) (fun k hk v hv => AI_ck hA hk hv) hm
  have h2 := CP_sent (l := x) (j := s.1 1 x 0 % 32) (v := s.1 12 0 0) h1
  have h3 := CP_snd (c := cod 0 x (s.1 1 x 0)) h2
  unfold mkm mmC
  rw [ua_comm _ _ _ (by omega)]
  exact h3
theorem mmC_k {σ : Sg} {x n t c : Nat} {p q : Int32} {k : Nat} (hk : 16 ≤ k) : mmC σ x n t c p q k = σ k := by
  unfold mmC apC
  rw [sdC_k (by omega) (by omega), up_k (by omega), up_k (by omega), up_k (by omega), up_k (by omega), up_k (by omega)]
