/-! the reference: its private methods -/
theorem nI_bool {b : Nat} (h : b ≤ 1) : vp_nar .boolean (nI b) = nI b := by
  rcases (by omega : b = 0 ∨ b = 1) with e | e <;> subst e <;> rfl
def rmS (σ : Sg) (n j m : Nat) : Sg := fun k n' => if k = 27 ∧ n' = 0 then va_cpy (σ 27 0) (σ 27 0) (j + 1) j m else if k = 28 ∧ n' = 0 then va_cpy (σ 28 0) (σ 28 0) (j + 1) j m else if k = 29 ∧ n' = 0 then va_cpy (σ 29 0) (σ 29 0) (j + 1) j m else up σ 16 0 14 (nI (n - 1)) k n'
theorem cpy_0 (f : Nat → Int32) (j : Nat) : va_cpy f f (j + 1) j 0 = f := by
  funext k
  exact pk_cpy_out (by omega)
theorem cpy_s (f : Nat → Int32) (j m : Nat) : upd (va_cpy f f (j + 1) j m) (j + m) (f (j + m + 1)) = va_cpy f f (j + 1) j (m + 1) := by
  funext k
  unfold upd
  by_cases q : k = j + m
  · subst q
    rw [if_pos rfl, pk_cpy_in (by omega) (by omega), show j + 1 + (j + m - j) = j + m + 1 by omega]
  · rw [if_neg q]
    by_cases q2 : j ≤ k ∧ k < j + m
    · rw [pk_cpy_in q2.1 q2.2, pk_cpy_in q2.1 (by omega)]
    · rw [pk_cpy_out (by omega), pk_cpy_out (by omega)]
theorem rmS_27 (σ : Sg) (n j m : Nat) : rmS σ n j m 27 0 = va_cpy (σ 27 0) (σ 27 0) (j + 1) j m := by simp [rmS]
theorem rmS_28 (σ : Sg) (n j m : Nat) : rmS σ n j m 28 0 = va_cpy (σ 28 0) (σ 28 0) (j + 1) j m := by simp [rmS]
theorem rmS_29 (σ : Sg) (n j m : Nat) : rmS σ n j m 29 0 = va_cpy (σ 29 0) (σ 29 0) (j + 1) j m := by simp [rmS]
theorem rmS_o {σ : Sg} {n j m k : Nat} (h1 : k ≠ 27) (h2 : k ≠ 28) (h3 : k ≠ 29) : rmS σ n j m k = up σ 16 0 14 (nI (n - 1)) k := by
  funext n'
  simp [rmS, h1, h2, h3]
theorem rmS_0 (σ : Sg) (n j : Nat) : rmS σ n j 0 = up σ 16 0 14 (nI (n - 1)) := by
  funext k n'
  unfold rmS
  rw [cpy_0, cpy_0, cpy_0]
  split
  next h => rw [h.1, h.2, up_k (by decide)]
  next =>
    split
    next h => rw [h.1, h.2, up_k (by decide)]
    next =>
      split
      next h => rw [h.1, h.2, up_k (by decide)]
      next => rfl
theorem rmS_s (σ : Sg) (n j m : Nat) : up (up (up (rmS σ n j m) 27 0 (j + m) (σ 27 0 (j + m + 1))) 28 0 (j + m) (σ 28 0 (j + m + 1))) 29 0 (j + m) (σ 29 0 (j + m + 1)) = rmS σ n j (m + 1) := by
  have e27 : ∀ i, va_cpy (σ 27 0) (σ 27 0) (j + 1) j (m + 1) i = if i = j + m then σ 27 0 (j + m + 1) else va_cpy (σ 27 0) (σ 27 0) (j + 1) j m i := fun i => by rw [← cpy_s]; rfl
  have e28 : ∀ i, va_cpy (σ 28 0) (σ 28 0) (j + 1) j (m + 1) i = if i = j + m then σ 28 0 (j + m + 1) else va_cpy (σ 28 0) (σ 28 0) (j + 1) j m i := fun i => by rw [← cpy_s]; rfl
  have e29 : ∀ i, va_cpy (σ 29 0) (σ 29 0) (j + 1) j (m + 1) i = if i = j + m then σ 29 0 (j + m + 1) else va_cpy (σ 29 0) (σ 29 0) (j + 1) j m i := fun i => by rw [← cpy_s]; rfl
  funext k n' i
  by_cases q0 : n' = 0
  · subst q0
    by_cases q1 : k = 27
    · subst q1
      rw [rmS_27, e27, up_k (by decide), up_k (by decide), up_eq, rmS_27]
      simp
    · by_cases q2 : k = 28
      · subst q2
        rw [rmS_28, e28, up_k (by decide), up_eq, up_k (by decide), rmS_28]
        simp
      · by_cases q3 : k = 29
        · subst q3
          rw [rmS_29, e29, up_eq, up_k (by decide), up_k (by decide), rmS_29]
          simp
        · rw [up_k q3, up_k q2, up_k q1, rmS_o q1 q2 q3, rmS_o q1 q2 q3]
  · rw [up_kn (fun z => q0 z.2), up_kn (fun z => q0 z.2), up_kn (fun z => q0 z.2)]
    simp [rmS, q0]
theorem rmS_M (σ : Sg) (n j : Nat) : rmS σ n j (n - 1 - j) = rmM σ n j := by
  funext k n'
  unfold rmS rmM
  by_cases q1 : k = 27 ∧ n' = 0
  · rw [if_pos q1, q1.1, q1.2, upr_ne (by omega), upr_ne (by omega), upr_at]
  · rw [if_neg q1]
    by_cases q2 : k = 28 ∧ n' = 0
    · rw [if_pos q2, q2.1, q2.2, upr_ne (by omega), upr_at]
    · rw [if_neg q2]
      by_cases q3 : k = 29 ∧ n' = 0
      · rw [if_pos q3, q3.1, q3.2, upr_at]
      · rw [if_neg q3, upr_ne q3, upr_ne q2, upr_ne q1]
section Md
variable {l : Launch} {g : Gc} {σ : Sg} {sl ru N w : Nat} {s : Sp}
theorem c_Md_isWorker_t (hg : Gok g) {v : Nat} (hm : σ 16 0 0 = nI w) (hv : v < w) (hw : w ≤ 4) : CI l g y_Md_isWorker 0 [.ref (g.1 16 0), .int (nI v)] σ (nI 1) σ := by
  refine ofK hg w_cd_Md_isWorker (by decide) (by decide) (by first | decide | simp) (by simp [Value.category]) ?_
  intro K hK hR
  have hK : Gd l g "GradientShardsModel" b_Md_isWorker 2 _ K := hK
  refine r_iload_n hK d_Md_isWorker_0 rfl rfl ?_
  refine r_if_lt (tgt := 16) hK d_Md_isWorker_1 (by decide) (fun hno => absurd hno (nI_pos (by omega))) (fun _ => ?_)
  refine r_iload_n hK d_Md_isWorker_4 rfl rfl ?_
  refine r_aload_n hK d_Md_isWorker_5 rfl rfl ?_
  refine r_getI hK d_Md_isWorker_6 f_Md_50 rfl (in_fix rfl) rfl rfl hm ?_
  refine rn_icmp_ge (tgt := 16) hK d_Md_isWorker_9 (by decide) (by first | omega | (split <;> omega)) (by first | omega | (split <;> omega)) (fun hno => absurd hno (by omega)) (fun _ => ?_)
  refine r_iconst (v := nI 1) hK d_Md_isWorker_12 (by decide) ?_
  refine r_goto (tgt := 17) hK d_Md_isWorker_13 (by decide) ?_
  exact hR.i d_Md_isWorker_17 rfl (⟨rfl, rfl⟩)
theorem c_Md_isWorker_f (hg : Gok g) {i : Int32} (hm : σ 16 0 0 = nI w) (hi : bad w i) : CI l g y_Md_isWorker 0 [.ref (g.1 16 0), .int i] σ (nI 0) σ := by
  refine ofK hg w_cd_Md_isWorker (by decide) (by decide) (by first | decide | simp) (by simp [Value.category]) ?_
  intro K hK hR
  have hK : Gd l g "GradientShardsModel" b_Md_isWorker 2 _ K := hK
  refine r_iload_n hK d_Md_isWorker_0 rfl rfl ?_
  refine r_if_lt (tgt := 16) hK d_Md_isWorker_1 (by decide) (fun h1 => ?_) (fun h1 => ?_)
  · refine r_iconst (v := nI 0) hK d_Md_isWorker_16 (by decide) ?_
    exact hR.i d_Md_isWorker_17 rfl (⟨rfl, rfl⟩)
  · refine r_iload_n hK d_Md_isWorker_4 rfl rfl ?_
    refine r_aload_n hK d_Md_isWorker_5 rfl rfl ?_
    refine r_getI hK d_Md_isWorker_6 f_Md_50 rfl (in_fix rfl) rfl rfl hm ?_
    refine r_icmp_ge (tgt := 16) hK d_Md_isWorker_9 (by decide) (fun _ => ?_) (fun hno => absurd (hi.resolve_left h1) hno)
    refine r_iconst (v := nI 0) hK d_Md_isWorker_16 (by decide) ?_
    exact hR.i d_Md_isWorker_17 rfl (⟨rfl, rfl⟩)
theorem c_Md_isShard_t (hg : Gok g) {v : Nat} (hv : v < 3) : CI l g y_Md_isShard 0 [.int (nI v)] σ (nI 1) σ := by
  refine ofK hg w_cd_Md_isShard (by decide) (by decide) (by first | decide | simp) (by simp [Value.category]) ?_
  intro K hK hR
  have hK : Gd l g "GradientShardsModel" b_Md_isShard 1 _ K := hK
  refine r_iload_n hK d_Md_isShard_0 rfl rfl ?_
  refine r_if_lt (tgt := 13) hK d_Md_isShard_1 (by decide) (fun hno => absurd hno (nI_pos (by omega))) (fun _ => ?_)
  refine r_iload_n hK d_Md_isShard_4 rfl rfl ?_
  refine r_iconst (v := nI 2) hK d_Md_isShard_5 (by decide) ?_
  refine rn_icmp_gt (tgt := 13) hK d_Md_isShard_6 (by decide) (by first | omega | (split <;> omega)) (by first | omega | (split <;> omega)) (fun hno => absurd hno (by omega)) (fun _ => ?_)
  refine r_iconst (v := nI 1) hK d_Md_isShard_9 (by decide) ?_
  refine r_goto (tgt := 14) hK d_Md_isShard_10 (by decide) ?_
  exact hR.i d_Md_isShard_14 rfl (⟨rfl, rfl⟩)
theorem c_Md_isShard_f (hg : Gok g) {i : Int32} (hi : bad 3 i) : CI l g y_Md_isShard 0 [.int i] σ (nI 0) σ := by
  refine ofK hg w_cd_Md_isShard (by decide) (by decide) (by first | decide | simp) (by simp [Value.category]) ?_
  intro K hK hR
  have hK : Gd l g "GradientShardsModel" b_Md_isShard 1 _ K := hK
  refine r_iload_n hK d_Md_isShard_0 rfl rfl ?_
  refine r_if_lt (tgt := 13) hK d_Md_isShard_1 (by decide) (fun h1 => ?_) (fun h1 => ?_)
  · refine r_iconst (v := nI 0) hK d_Md_isShard_13 (by decide) ?_
    exact hR.i d_Md_isShard_14 rfl (⟨rfl, rfl⟩)
  · refine r_iload_n hK d_Md_isShard_4 rfl rfl ?_
    refine r_iconst (v := nI 2) hK d_Md_isShard_5 (by decide) ?_
    refine r_icmp_gt (tgt := 13) hK d_Md_isShard_6 (by decide) (fun _ => ?_) (fun hno => absurd (Int32.lt_of_lt_of_le (by decide) (hi.resolve_left h1)) hno)
    refine r_iconst (v := nI 0) hK d_Md_isShard_13 (by decide) ?_
    exact hR.i d_Md_isShard_14 rfl (⟨rfl, rfl⟩)
theorem c_Md_waits (hg : Gok g) {v : Nat} {c : Nat → Nat} (hm : σ 16 0 0 = nI w) (hs : σ 16 0 1 = nI sl) (hsl : sl < 2 ^ 30) (hv : v < w) (hw : w ≤ 4) (hc : ∀ i, i < w → σ 17 0 i = nI (c i)) (hb : ∀ i, i < w → c i < 2 ^ 30) : CI l g y_Md_waits 0 [.ref (g.1 16 0), .int (nI v)] σ (nI (if sl < c v - minF c (c v) w then 1 else 0)) σ := by
  have hbv := hb v hv
  refine ofK hg w_cd_Md_waits (by decide) (by decide) (by first | decide | simp) (by simp [Value.category]) ?_
  intro K hK hR
  have hK : Gd l g "GradientShardsModel" b_Md_waits 4 _ K := hK
  have hloop : ∀ d i, i + d = w → K 9 [.ref (g.1 16 0), .int (nI v), .int (nI (minF c (c v) i)), .int (nI i)] [] σ := by
    intro d
    induction d with
    | zero =>
      intro i hi
      obtain rfl : i = w := by omega
      have hml := minF_le c (c v) i
      refine r_iload_n hK d_Md_waits_9 rfl rfl ?_
      refine r_aload_n hK d_Md_waits_10 rfl rfl ?_
      refine r_getI hK d_Md_waits_11 f_Md_50 rfl (in_fix rfl) rfl rfl hm ?_
      refine rn_icmp_ge (tgt := 44) hK d_Md_waits_14 (by decide) (by first | omega | (split <;> omega)) (by first | omega | (split <;> omega)) (fun _ => ?_) (fun hno => absurd hno (by omega))
      refine r_aload_n hK d_Md_waits_44 rfl rfl ?_
      refine r_getR hK d_Md_waits_45 f_Md_7 rfl (in_fix rfl) rfl rfl ?_
      refine r_iload_n hK d_Md_waits_48 rfl rfl ?_
      refine r_iald hK d_Md_waits_49 rfl rfl (in_fix rfl) (ix_nI (j := v) (by omega)) (by show v < 4; omega) (hc v hv) ?_
      refine r_iload_n hK d_Md_waits_50 rfl rfl ?_
      refine r_isub hK d_Md_waits_51 (pk_sub (by omega)) ?_
      refine r_aload_n hK d_Md_waits_52 rfl rfl ?_
      refine r_getI hK d_Md_waits_53 f_Md_54 rfl (in_fix rfl) rfl rfl hs ?_
      refine rn_icmp_le (tgt := 63) hK d_Md_waits_56 (by decide) (by first | omega | (split <;> omega)) (by first | omega | (split <;> omega)) (fun q => ?_) (fun q => ?_)
      · refine r_iconst (v := nI 0) hK d_Md_waits_63 (by decide) ?_
        exact hR.i d_Md_waits_64 rfl (⟨by first | rw [if_pos q] | rw [if_neg (by omega)], rfl⟩)
      · refine r_iconst (v := nI 1) hK d_Md_waits_59 (by decide) ?_
        refine r_goto (tgt := 64) hK d_Md_waits_60 (by decide) ?_
        exact hR.i d_Md_waits_64 rfl (⟨by first | rw [if_pos q] | rw [if_neg (by omega)], rfl⟩)
    | succ d ih =>
      intro i hi
      have hbi := hb i (by omega)
      have hml := minF_le c (c v) i
      have ih2 := ih (i + 1) (by omega)
      have e1 : minF c (c v) (i + 1) = min (minF c (c v) i) (c i) := rfl
      refine r_iload_n hK d_Md_waits_9 rfl rfl ?_
      refine r_aload_n hK d_Md_waits_10 rfl rfl ?_
      refine r_getI hK d_Md_waits_11 f_Md_50 rfl (in_fix rfl) rfl rfl hm ?_
      refine rn_icmp_ge (tgt := 44) hK d_Md_waits_14 (by decide) (by first | omega | (split <;> omega)) (by first | omega | (split <;> omega)) (fun hno => absurd hno (by omega)) (fun _ => ?_)
      refine r_aload_n hK d_Md_waits_17 rfl rfl ?_
      refine r_getR hK d_Md_waits_18 f_Md_7 rfl (in_fix rfl) rfl rfl ?_
      refine r_iload_n hK d_Md_waits_21 rfl rfl ?_
      refine r_iald hK d_Md_waits_22 rfl rfl (in_fix rfl) (ix_nI (j := i) (by omega)) (by show i < 4; omega) (hc i (by omega)) ?_
      refine r_iload_n hK d_Md_waits_23 rfl rfl ?_
      refine rn_icmp_ge (tgt := 36) hK d_Md_waits_24 (by decide) (by first | omega | (split <;> omega)) (by first | omega | (split <;> omega)) (fun q => ?_) (fun q => ?_)
      · rw [e1, Nat.min_eq_left q] at ih2
        refine r_iload_n hK d_Md_waits_36 rfl rfl ?_
        refine r_istore_n hK d_Md_waits_37 rfl rfl rfl ?_
        refine r_iinc hK d_Md_waits_38 rfl (nI_1 _) rfl ?_
        refine r_goto (tgt := 9) hK d_Md_waits_41 (by decide) ?_
        exact ih2
      · rw [e1, Nat.min_eq_right (Nat.le_of_lt q)] at ih2
        refine r_aload_n hK d_Md_waits_27 rfl rfl ?_
        refine r_getR hK d_Md_waits_28 f_Md_7 rfl (in_fix rfl) rfl rfl ?_
        refine r_iload_n hK d_Md_waits_31 rfl rfl ?_
        refine r_iald hK d_Md_waits_32 rfl rfl (in_fix rfl) (ix_nI (j := i) (by omega)) (by show i < 4; omega) (hc i (by omega)) ?_
        refine r_goto (tgt := 37) hK d_Md_waits_33 (by decide) ?_
        refine r_istore_n hK d_Md_waits_37 rfl rfl rfl ?_
        refine r_iinc hK d_Md_waits_38 rfl (nI_1 _) rfl ?_
        refine r_goto (tgt := 9) hK d_Md_waits_41 (by decide) ?_
        exact ih2
  refine r_aload_n hK d_Md_waits_0 rfl rfl ?_
  refine r_getR hK d_Md_waits_1 f_Md_7 rfl (in_fix rfl) rfl rfl ?_
  refine r_iload_n hK d_Md_waits_4 rfl rfl ?_
  refine r_iald hK d_Md_waits_5 rfl rfl (in_fix rfl) (ix_nI (j := v) (by omega)) (by show v < 4; omega) (hc v hv) ?_
  refine r_istore_n hK d_Md_waits_6 rfl rfl rfl ?_
  refine r_iconst (v := nI 0) hK d_Md_waits_7 (by decide) ?_
  refine r_istore_n hK d_Md_waits_8 rfl rfl rfl ?_
  exact hloop w 0 (by omega)
theorem c_Md_send (hg : Gok g) {n b : Nat} {x y : Int32} (hh : σ 16 0 14 = nI n) (hn : n ≤ 24) (hb : b ≤ 1) : CV l g y_Md_send 0 [.ref (g.1 16 0), .int (nI b), .int x, .int y] σ (sdM σ n (nI b) x y) := by
  refine ofK hg w_cd_Md_send (by decide) (by decide) (by first | decide | simp) (by simp [Value.category]) ?_
  intro K hK hR
  have hK : Gd l g "GradientShardsModel" b_Md_send 4 _ K := hK
  refine r_aload_n hK d_Md_send_0 rfl rfl ?_
  refine r_getR hK d_Md_send_1 f_Md_38 rfl (in_fix rfl) rfl rfl ?_
  refine r_iconst (v := nI 0) hK d_Md_send_4 (by decide) ?_
  refine r_aload_n hK d_Md_send_5 rfl rfl ?_
  refine r_getR hK d_Md_send_6 f_Md_38 rfl (in_fix rfl) rfl rfl ?_
  refine r_iconst (v := nI 0) hK d_Md_send_9 (by decide) ?_
  refine r_iald hK d_Md_send_10 rfl rfl (in_fix rfl) (ix_nI (j := 0) (by decide)) (by show 0 < 6; decide) rfl ?_
  refine r_iconst (v := nI 1) hK d_Md_send_11 (by decide) ?_
  refine r_iadd hK d_Md_send_12 rfl ?_
  refine r_iast hK d_Md_send_13 rfl rfl (in_fix rfl) (ix_nI (j := 0) (by decide)) (by show 0 < 6; decide) ?_
  refine r_aload_n hK d_Md_send_14 rfl rfl ?_
  refine r_getI hK d_Md_send_15 f_Md_60 rfl (in_fix rfl) rfl rfl (v := nI n) (by simp [up_eq, hh]) ?_
  refine r_bipush (v := nI 24) hK d_Md_send_18 (by decide) ?_
  refine rn_icmp_lt (tgt := 38) hK d_Md_send_20 (by decide) (by first | omega | (split <;> omega)) (by first | omega | (split <;> omega)) (fun q => ?_) (fun q => ?_)
  · refine r_aload_n hK d_Md_send_38 rfl rfl ?_
    refine r_getR hK d_Md_send_39 f_Md_41 rfl (in_fix rfl) rfl rfl ?_
    refine r_aload_n hK d_Md_send_42 rfl rfl ?_
    refine r_getI hK d_Md_send_43 f_Md_60 rfl (in_fix rfl) rfl rfl (v := nI n) (by simp [up_eq, hh]) ?_
    refine r_iload_n hK d_Md_send_46 rfl rfl ?_
    refine r_zast hK d_Md_send_47 rfl rfl (in_fix rfl) (ix_nI (j := n) (by omega)) q (nI_bool hb) ?_
    refine r_aload_n hK d_Md_send_48 rfl rfl ?_
    refine r_getR hK d_Md_send_49 f_Md_44 rfl (in_fix rfl) rfl rfl ?_
    refine r_aload_n hK d_Md_send_52 rfl rfl ?_
    refine r_getI hK d_Md_send_53 f_Md_60 rfl (in_fix rfl) rfl rfl (v := nI n) (by simp [up_eq, hh]) ?_
    refine r_iload_n hK d_Md_send_56 rfl rfl ?_
    refine r_iast hK d_Md_send_57 rfl rfl (in_fix rfl) (ix_nI (j := n) (by omega)) q ?_
    refine r_aload_n hK d_Md_send_58 rfl rfl ?_
    refine r_getR hK d_Md_send_59 f_Md_47 rfl (in_fix rfl) rfl rfl ?_
    refine r_aload_n hK d_Md_send_62 rfl rfl ?_
    refine r_getI hK d_Md_send_63 f_Md_60 rfl (in_fix rfl) rfl rfl (v := nI n) (by simp [up_eq, hh]) ?_
    refine r_iload_n hK d_Md_send_66 rfl rfl ?_
    refine r_iast hK d_Md_send_67 rfl rfl (in_fix rfl) (ix_nI (j := n) (by omega)) q ?_
    refine r_aload_n hK d_Md_send_68 rfl rfl ?_
    refine r_aload_n hK d_Md_send_69 rfl rfl ?_
    refine r_getI hK d_Md_send_70 f_Md_60 rfl (in_fix rfl) rfl rfl (v := nI n) (by simp [up_eq, hh]) ?_
    refine r_iconst (v := nI 1) hK d_Md_send_73 (by decide) ?_
    refine r_iadd hK d_Md_send_74 (nI_add _ _) ?_
    refine r_putI hK d_Md_send_75 f_Md_60 rfl (in_fix rfl) rfl rfl rfl rfl ?_
    exact hR.v d_Md_send_78 (⟨rfl, by unfold sdM; rw [if_pos q]⟩)
  · refine r_aload_n hK d_Md_send_23 rfl rfl ?_
    refine r_getR hK d_Md_send_24 f_Md_38 rfl (in_fix rfl) rfl rfl ?_
    refine r_iconst (v := nI 1) hK d_Md_send_27 (by decide) ?_
    refine r_aload_n hK d_Md_send_28 rfl rfl ?_
    refine r_getR hK d_Md_send_29 f_Md_38 rfl (in_fix rfl) rfl rfl ?_
    refine r_iconst (v := nI 1) hK d_Md_send_32 (by decide) ?_
    refine r_iald hK d_Md_send_33 rfl rfl (in_fix rfl) (ix_nI (j := 1) (by decide)) (by show 1 < 6; decide) (v := σ 26 0 1) (by simp [up_eq]) ?_
    refine r_iconst (v := nI 1) hK d_Md_send_34 (by decide) ?_
    refine r_iadd hK d_Md_send_35 rfl ?_
    refine r_iast hK d_Md_send_36 rfl rfl (in_fix rfl) (ix_nI (j := 1) (by decide)) (by show 1 < 6; decide) ?_
    exact hR.v d_Md_send_37 (⟨rfl, by unfold sdM; rw [if_neg (by omega)]⟩)
theorem c_Md_remove (hg : Gok g) {n j : Nat} (hh : σ 16 0 14 = nI n) (hn : n ≤ 24) (hj : j < n) (hb : ∀ i, i < n → ∃ b, b ≤ 1 ∧ σ 27 0 i = nI b) : CV l g y_Md_remove 0 [.ref (g.1 16 0), .int (nI j)] σ (rmM σ n j) := by
  refine ofK hg w_cd_Md_remove (by decide) (by decide) (by first | decide | simp) (by simp [Value.category]) ?_
  intro K hK hR
  have hK : Gd l g "GradientShardsModel" b_Md_remove 3 _ K := hK
  have hloop : ∀ d m, j + m + d = n - 1 → K 12 [.ref (g.1 16 0), .int (nI j), .int (nI (j + m))] [] (rmS σ n j m) := by
    intro d
    induction d with
    | zero =>
      intro m hm
      refine r_iload_n hK d_Md_remove_12 rfl rfl ?_
      refine r_aload_n hK d_Md_remove_13 rfl rfl ?_
      refine r_getI hK d_Md_remove_14 f_Md_60 rfl (in_fix rfl) rfl rfl (v := nI (n - 1)) (by rw [rmS_o (by decide) (by decide) (by decide)]; simp [up_eq]) ?_
      refine rn_icmp_ge (tgt := 68) hK d_Md_remove_17 (by decide) (by first | omega | (split <;> omega)) (by first | omega | (split <;> omega)) (fun _ => ?_) (fun hno => absurd hno (by omega))
      exact hR.v d_Md_remove_68 (⟨rfl, by rw [show m = n - 1 - j by omega, rmS_M]⟩)
    | succ d ih =>
      intro m hm
      obtain ⟨b, hb1, hb2⟩ := hb (j + m + 1) (by omega)
      have ih2 := ih (m + 1) (by omega)
      rw [← rmS_s, hb2] at ih2
      refine r_iload_n hK d_Md_remove_12 rfl rfl ?_
      refine r_aload_n hK d_Md_remove_13 rfl rfl ?_
      refine r_getI hK d_Md_remove_14 f_Md_60 rfl (in_fix rfl) rfl rfl (v := nI (n - 1)) (by rw [rmS_o (by decide) (by decide) (by decide)]; simp [up_eq]) ?_
      refine rn_icmp_ge (tgt := 68) hK d_Md_remove_17 (by decide) (by first | omega | (split <;> omega)) (by first | omega | (split <;> omega)) (fun hno => absurd hno (by omega)) (fun _ => ?_)
      refine r_aload_n hK d_Md_remove_20 rfl rfl ?_
      refine r_getR hK d_Md_remove_21 f_Md_41 rfl (in_fix rfl) rfl rfl ?_
      refine r_iload_n hK d_Md_remove_24 rfl rfl ?_
      refine r_aload_n hK d_Md_remove_25 rfl rfl ?_
      refine r_getR hK d_Md_remove_26 f_Md_41 rfl (in_fix rfl) rfl rfl ?_
      refine r_iload_n hK d_Md_remove_29 rfl rfl ?_
      refine r_iconst (v := nI 1) hK d_Md_remove_30 (by decide) ?_
      refine r_iadd hK d_Md_remove_31 (nI_add _ _) ?_
      refine r_zald hK d_Md_remove_32 rfl rfl (in_fix rfl) (ix_nI (j := j + m + 1) (by omega)) (by show j + m + 1 < 24; omega) (v := nI b) (by rw [rmS_27, pk_cpy_out (by omega)]; exact hb2) ?_
      refine r_zast hK d_Md_remove_33 rfl rfl (in_fix rfl) (ix_nI (j := j + m) (by omega)) (by show j + m < 24; omega) (nI_bool hb1) ?_
      refine r_aload_n hK d_Md_remove_34 rfl rfl ?_
      refine r_getR hK d_Md_remove_35 f_Md_44 rfl (in_fix rfl) rfl rfl ?_
      refine r_iload_n hK d_Md_remove_38 rfl rfl ?_
      refine r_aload_n hK d_Md_remove_39 rfl rfl ?_
      refine r_getR hK d_Md_remove_40 f_Md_44 rfl (in_fix rfl) rfl rfl ?_
      refine r_iload_n hK d_Md_remove_43 rfl rfl ?_
      refine r_iconst (v := nI 1) hK d_Md_remove_44 (by decide) ?_
      refine r_iadd hK d_Md_remove_45 (nI_add _ _) ?_
      refine r_iald hK d_Md_remove_46 rfl rfl (in_fix rfl) (ix_nI (j := j + m + 1) (by omega)) (by show j + m + 1 < 24; omega) (v := σ 28 0 (j + m + 1)) (by rw [up_k (by decide), rmS_28, pk_cpy_out (by omega)]) ?_
      refine r_iast hK d_Md_remove_47 rfl rfl (in_fix rfl) (ix_nI (j := j + m) (by omega)) (by show j + m < 24; omega) ?_
      refine r_aload_n hK d_Md_remove_48 rfl rfl ?_
      refine r_getR hK d_Md_remove_49 f_Md_47 rfl (in_fix rfl) rfl rfl ?_
      refine r_iload_n hK d_Md_remove_52 rfl rfl ?_
      refine r_aload_n hK d_Md_remove_53 rfl rfl ?_
      refine r_getR hK d_Md_remove_54 f_Md_47 rfl (in_fix rfl) rfl rfl ?_
      refine r_iload_n hK d_Md_remove_57 rfl rfl ?_
      refine r_iconst (v := nI 1) hK d_Md_remove_58 (by decide) ?_
      refine r_iadd hK d_Md_remove_59 (nI_add _ _) ?_
      refine r_iald hK d_Md_remove_60 rfl rfl (in_fix rfl) (ix_nI (j := j + m + 1) (by omega)) (by show j + m + 1 < 24; omega) (v := σ 29 0 (j + m + 1)) (by rw [up_k (by decide), up_k (by decide), rmS_29, pk_cpy_out (by omega)]) ?_
      refine r_iast hK d_Md_remove_61 rfl rfl (in_fix rfl) (ix_nI (j := j + m) (by omega)) (by show j + m < 24; omega) ?_
      refine r_iinc hK d_Md_remove_62 rfl (nI_1 _) rfl ?_
      refine r_goto (tgt := 12) hK d_Md_remove_65 (by decide) ?_
      exact ih2
  have h0 := hloop (n - 1 - j) 0 (by omega)
  rw [rmS_0] at h0
  refine r_aload_n hK d_Md_remove_0 rfl rfl ?_
  refine r_aload_n hK d_Md_remove_1 rfl rfl ?_
  refine r_getI hK d_Md_remove_2 f_Md_60 rfl (in_fix rfl) rfl rfl hh ?_
  refine r_iconst (v := nI 1) hK d_Md_remove_5 (by decide) ?_
  refine r_isub hK d_Md_remove_6 (pk_sub (by omega)) ?_
  refine r_putI hK d_Md_remove_7 f_Md_60 rfl (in_fix rfl) rfl rfl rfl rfl ?_
  refine r_iload_n hK d_Md_remove_10 rfl rfl ?_
  refine r_istore_n hK d_Md_remove_11 rfl rfl rfl ?_
  exact h0
theorem c_Md_narrow (hg : Gok g) (v : Int32) : CI l g y_Md_narrow 0 [.int v] σ (nar v) σ := by
  refine ofK hg w_cd_Md_narrow (by decide) (by decide) (by first | decide | simp) (by simp [Value.category]) ?_
  intro K hK hR
  have hK : Gd l g "GradientShardsModel" b_Md_narrow 1 _ K := hK
  refine r_iload_n hK d_Md_narrow_0 rfl rfl ?_
  refine r_bipush (v := -99) hK d_Md_narrow_1 (by decide) ?_
  refine r_icmp_ge (tgt := 11) hK d_Md_narrow_3 (by decide) (fun q1 => ?_) (fun q1 => ?_)
  · refine r_iload_n hK d_Md_narrow_11 rfl rfl ?_
    refine r_bipush (v := nI 99) hK d_Md_narrow_12 (by decide) ?_
    refine r_icmp_le (tgt := 22) hK d_Md_narrow_14 (by decide) (fun q2 => ?_) (fun q2 => ?_)
    · have e1 : nar v = v := by unfold nar; rw [if_neg (Int32.not_lt.mpr q1), if_neg (Int32.not_lt.mpr q2)]
      refine r_iload_n hK d_Md_narrow_22 rfl rfl ?_
      exact hR.i d_Md_narrow_23 rfl (⟨by rw [e1], rfl⟩)
    · have e1 : nar v = nI 99 := by unfold nar; rw [if_neg (Int32.not_lt.mpr q1), if_pos (Int32.not_le.mp q2)]
      refine r_bipush (v := nI 99) hK d_Md_narrow_17 (by decide) ?_
      refine r_goto (tgt := 23) hK d_Md_narrow_19 (by decide) ?_
      exact hR.i d_Md_narrow_23 rfl (⟨by rw [e1], rfl⟩)
  · have e1 : nar v = -99 := by unfold nar; rw [if_pos (Int32.not_le.mp q1)]
    refine r_bipush (v := -99) hK d_Md_narrow_6 (by decide) ?_
    refine r_goto (tgt := 23) hK d_Md_narrow_8 (by decide) ?_
    exact hR.i d_Md_narrow_23 rfl (⟨by rw [e1], rfl⟩)
theorem c_Md_turn (hg : Gok g) (hM : MP w sl ru s σ) (hA : AI w N s) {x : Nat} (hx : x < 3 * w) : CI l g y_Md_turn 0 [.ref (g.1 16 0), .int (nI x)] σ (nI (trn s.1 x)) σ := by
  have hw := hA.1.2.1
  have hN := hA.1.2.2.1
  obtain ⟨l1, l2, l3, l4, l5, l6, l7, l8, -⟩ := hA.2.2.1 x hx
  have htl := trn_le s.1 x
  have hmd := (hM.2.2.1 x hx).1
  refine ofK hg w_cd_Md_turn (by decide) (by decide) (by first | decide | simp) (by simp [Value.category]) ?_
  intro K hK hR
  have hK : Gd l g "GradientShardsModel" b_Md_turn 3 _ K := hK
  have hloop : ∀ d i, i + d = trn s.1 x → K 2 [.ref (g.1 16 0), .int (nI x), .int (nI i)] [] σ := by
    intro d
    induction d with
    | zero =>
      intro i hi
      obtain rfl : i = trn s.1 x := by omega
      have l7i := l7 (trn s.1 x)
      refine r_iload_n hK d_Md_turn_2 rfl rfl ?_
      refine r_aload_n hK d_Md_turn_3 rfl rfl ?_
      refine r_getR hK d_Md_turn_4 f_Md_13 rfl (in_fix rfl) rfl rfl ?_
      refine r_iload_n hK d_Md_turn_7 rfl rfl ?_
      refine r_iald hK d_Md_turn_8 rfl rfl (in_fix rfl) (ix_nI (j := x) (by omega)) (by show x < 12; omega) hmd ?_
      refine rn_icmp_ge (tgt := 34) hK d_Md_turn_9 (by decide) (by first | omega | (split <;> omega)) (by first | omega | (split <;> omega)) (fun q => ?_) (fun q => ?_)
      · refine r_iload_n hK d_Md_turn_34 rfl rfl ?_
        exact hR.i d_Md_turn_35 rfl (⟨rfl, rfl⟩)
      · refine r_aload_n hK d_Md_turn_12 rfl rfl ?_
        refine r_getR hK d_Md_turn_13 f_Md_25 rfl (in_fix rfl) rfl rfl ?_
        refine r_sipush (v := nI 512) hK d_Md_turn_16 (by decide) ?_
        refine r_iload_n hK d_Md_turn_19 rfl rfl ?_
        refine r_imul hK d_Md_turn_20 (pk_mul _ _) ?_
        refine r_iload_n hK d_Md_turn_21 rfl rfl ?_
        refine r_iadd hK d_Md_turn_22 (nI_add _ _) ?_
        refine r_zald hK d_Md_turn_23 rfl rfl (in_fix rfl) (ix_nI (j := 512 * x + trn s.1 x) (by omega)) (by show 512 * x + trn s.1 x < 6144; omega) (hM.2.2.2.1 x (trn s.1 x) hx (by omega)).2 ?_
        refine rn_if_eq (tgt := 34) hK d_Md_turn_24 (by decide) (by first | omega | (split <;> omega)) (fun _ => ?_) (fun hno => absurd hno (by have := tnF_stop (s.1 5 x) (s.1 1 x 0) q; have e : s.1 5 x (trn s.1 x) ≠ 1 := this; omega))
        refine r_iload_n hK d_Md_turn_34 rfl rfl ?_
        exact hR.i d_Md_turn_35 rfl (⟨rfl, rfl⟩)
    | succ d ih =>
      intro i hi
      have h1 : s.1 5 x i = 1 := tnF_lt _ _ _ (show i < trn s.1 x by omega)
      refine r_iload_n hK d_Md_turn_2 rfl rfl ?_
      refine r_aload_n hK d_Md_turn_3 rfl rfl ?_
      refine r_getR hK d_Md_turn_4 f_Md_13 rfl (in_fix rfl) rfl rfl ?_
      refine r_iload_n hK d_Md_turn_7 rfl rfl ?_
      refine r_iald hK d_Md_turn_8 rfl rfl (in_fix rfl) (ix_nI (j := x) (by omega)) (by show x < 12; omega) hmd ?_
      refine rn_icmp_ge (tgt := 34) hK d_Md_turn_9 (by decide) (by first | omega | (split <;> omega)) (by first | omega | (split <;> omega)) (fun hno => absurd hno (by omega)) (fun _ => ?_)
      refine r_aload_n hK d_Md_turn_12 rfl rfl ?_
      refine r_getR hK d_Md_turn_13 f_Md_25 rfl (in_fix rfl) rfl rfl ?_
      refine r_sipush (v := nI 512) hK d_Md_turn_16 (by decide) ?_
      refine r_iload_n hK d_Md_turn_19 rfl rfl ?_
      refine r_imul hK d_Md_turn_20 (pk_mul _ _) ?_
      refine r_iload_n hK d_Md_turn_21 rfl rfl ?_
      refine r_iadd hK d_Md_turn_22 (nI_add _ _) ?_
      refine r_zald hK d_Md_turn_23 rfl rfl (in_fix rfl) (ix_nI (j := 512 * x + i) (by omega)) (by show 512 * x + i < 6144; omega) (hM.2.2.2.1 x i hx (by omega)).2 ?_
      refine rn_if_eq (tgt := 34) hK d_Md_turn_24 (by decide) (by first | omega | (split <;> omega)) (fun hno => absurd hno (by omega)) (fun _ => ?_)
      refine r_iload_n hK d_Md_turn_27 rfl rfl ?_
      refine r_iconst (v := nI 1) hK d_Md_turn_28 (by decide) ?_
      refine r_iadd hK d_Md_turn_29 (nI_add _ _) ?_
      refine r_istore_n hK d_Md_turn_30 rfl rfl rfl ?_
      refine r_goto (tgt := 2) hK d_Md_turn_31 (by decide) ?_
      exact ih (i + 1) (by omega)
  refine r_iconst (v := nI 0) hK d_Md_turn_0 (by decide) ?_
  refine r_istore_n hK d_Md_turn_1 rfl rfl rfl ?_
  exact hloop (trn s.1 x) 0 (by omega)
theorem c_Md_boundary (hg : Gok g) (hM : MP w sl ru s σ) (hA : AI w N s) {x c : Nat} (hx : x < 3 * w) (hc : c < 2 ^ 30) : CI l g y_Md_boundary 0 [.ref (g.1 16 0), .int (nI x), .int (nI c)] σ (nI (bnd s.1 x c)) σ := by
  have hw := hA.1.2.1
  have hN := hA.1.2.2.1
  obtain ⟨l1, l2, l3, l4, l5, l6, l7, l8, -⟩ := hA.2.2.1 x hx
  have hbl : bnd s.1 x c ≤ s.1 1 x 0 := bnF_le _ _ _
  have hmd := (hM.2.2.1 x hx).1
  have hf : ∀ n, n < s.1 1 x 0 → s.1 4 x n < 2 ^ 30 := fun n hn => by
    rcases l6 n hn with e | ⟨e, -, -⟩
    · rw [e]; decide
    · omega
  refine ofK hg w_cd_Md_boundary (by decide) (by decide) (by first | decide | simp) (by simp [Value.category]) ?_
  intro K hK hR
  have hK : Gd l g "GradientShardsModel" b_Md_boundary 5 _ K := hK
  have hloop : ∀ d i, i + d = bnd s.1 x c → K 5 [.ref (g.1 16 0), .int (nI x), .int (nI c), .int (nI (en (s.1 4 x) i)), .int (nI i)] [] σ := by
    intro d
    induction d with
    | zero =>
      intro i hi
      obtain rfl : i = bnd s.1 x c := by omega
      have hel := en_le (s.1 4 x) (bnd s.1 x c)
      refine r_iload hK d_Md_boundary_5 rfl ?_
      refine r_aload_n hK d_Md_boundary_7 rfl rfl ?_
      refine r_getR hK d_Md_boundary_8 f_Md_13 rfl (in_fix rfl) rfl rfl ?_
      refine r_iload_n hK d_Md_boundary_11 rfl rfl ?_
      refine r_iald hK d_Md_boundary_12 rfl rfl (in_fix rfl) (ix_nI (j := x) (by omega)) (by show x < 12; omega) hmd ?_
      refine rn_icmp_ge (tgt := 56) hK d_Md_boundary_13 (by decide) (by first | omega | (split <;> omega)) (by first | omega | (split <;> omega)) (fun q => ?_) (fun q => ?_)
      · refine r_iload hK d_Md_boundary_56 rfl ?_
        exact hR.i d_Md_boundary_58 rfl (⟨rfl, rfl⟩)
      · refine r_iload_n hK d_Md_boundary_16 rfl rfl ?_
        refine r_iload_n hK d_Md_boundary_17 rfl rfl ?_
        refine rn_icmp_ge (tgt := 56) hK d_Md_boundary_18 (by decide) (by first | omega | (split <;> omega)) (by first | omega | (split <;> omega)) (fun _ => ?_) (fun hno => absurd hno (by have e : c ≤ en (s.1 4 x) (bnd s.1 x c) := bnF_stop _ _ _ q; omega))
        refine r_iload hK d_Md_boundary_56 rfl ?_
        exact hR.i d_Md_boundary_58 rfl (⟨rfl, rfl⟩)
    | succ d ih =>
      intro i hi
      have hlt : en (s.1 4 x) i < c := bnF_lt _ _ _ _ (show i < bnd s.1 x c by omega)
      have hel := en_le (s.1 4 x) i
      have hfi := hf i (by omega)
      have ih2 := ih (i + 1) (by omega)
      have e1 : en (s.1 4 x) (i + 1) = en (s.1 4 x) i + (if s.1 4 x i = END then 1 else 0) := rfl
      have hE : END < 2 ^ 30 := by decide
      refine r_iload hK d_Md_boundary_5 rfl ?_
      refine r_aload_n hK d_Md_boundary_7 rfl rfl ?_
      refine r_getR hK d_Md_boundary_8 f_Md_13 rfl (in_fix rfl) rfl rfl ?_
      refine r_iload_n hK d_Md_boundary_11 rfl rfl ?_
      refine r_iald hK d_Md_boundary_12 rfl rfl (in_fix rfl) (ix_nI (j := x) (by omega)) (by show x < 12; omega) hmd ?_
      refine rn_icmp_ge (tgt := 56) hK d_Md_boundary_13 (by decide) (by first | omega | (split <;> omega)) (by first | omega | (split <;> omega)) (fun hno => absurd hno (by omega)) (fun _ => ?_)
      refine r_iload_n hK d_Md_boundary_16 rfl rfl ?_
      refine r_iload_n hK d_Md_boundary_17 rfl rfl ?_
      refine rn_icmp_ge (tgt := 56) hK d_Md_boundary_18 (by decide) (by first | omega | (split <;> omega)) (by first | omega | (split <;> omega)) (fun hno => absurd hno (by omega)) (fun _ => ?_)
      refine r_aload_n hK d_Md_boundary_21 rfl rfl ?_
      refine r_getR hK d_Md_boundary_22 f_Md_22 rfl (in_fix rfl) rfl rfl ?_
      refine r_sipush (v := nI 512) hK d_Md_boundary_25 (by decide) ?_
      refine r_iload_n hK d_Md_boundary_28 rfl rfl ?_
      refine r_imul hK d_Md_boundary_29 (pk_mul _ _) ?_
      refine r_iload hK d_Md_boundary_30 rfl ?_
      refine r_iadd hK d_Md_boundary_32 (nI_add _ _) ?_
      refine r_iald hK d_Md_boundary_33 rfl rfl (in_fix rfl) (ix_nI (j := 512 * x + i) (by omega)) (by show 512 * x + i < 6144; omega) (hM.2.2.2.1 x i hx (by omega)).1 ?_
      refine r_ldc (v := nI END) hK d_Md_boundary_34 w_co_Md_81 ?_
      refine rn_icmp_ne (tgt := 45) hK d_Md_boundary_36 (by decide) (by first | omega | (split <;> omega)) (by first | omega | (split <;> omega)) (fun q => ?_) (fun q => ?_)
      · rw [e1, if_neg q] at ih2
        refine r_iload_n hK d_Md_boundary_45 rfl rfl ?_
        refine r_istore_n hK d_Md_boundary_46 rfl rfl rfl ?_
        refine r_iload hK d_Md_boundary_47 rfl ?_
        refine r_iconst (v := nI 1) hK d_Md_boundary_49 (by decide) ?_
        refine r_iadd hK d_Md_boundary_50 (nI_add _ _) ?_
        refine r_istore hK d_Md_boundary_51 rfl rfl ?_
        refine r_goto (tgt := 5) hK d_Md_boundary_53 (by decide) ?_
        exact ih2
      · rw [e1, if_pos q] at ih2
        refine r_iload_n hK d_Md_boundary_39 rfl rfl ?_
        refine r_iconst (v := nI 1) hK d_Md_boundary_40 (by decide) ?_
        refine r_iadd hK d_Md_boundary_41 (nI_add _ _) ?_
        refine r_goto (tgt := 46) hK d_Md_boundary_42 (by decide) ?_
        refine r_istore_n hK d_Md_boundary_46 rfl rfl rfl ?_
        refine r_iload hK d_Md_boundary_47 rfl ?_
        refine r_iconst (v := nI 1) hK d_Md_boundary_49 (by decide) ?_
        refine r_iadd hK d_Md_boundary_50 (nI_add _ _) ?_
        refine r_istore hK d_Md_boundary_51 rfl rfl ?_
        refine r_goto (tgt := 5) hK d_Md_boundary_53 (by decide) ?_
        exact ih2
  refine r_iconst (v := nI 0) hK d_Md_boundary_0 (by decide) ?_
  refine r_istore_n hK d_Md_boundary_1 rfl rfl rfl ?_
  refine r_iconst (v := nI 0) hK d_Md_boundary_2 (by decide) ?_
  refine r_istore hK d_Md_boundary_3 rfl rfl ?_
  exact hloop (bnd s.1 x c) 0 (by omega)
theorem c_Md_clocksDone (hg : Gok g) (hM : MP w sl ru s σ) (hA : AI w N s) {h : Nat} (hh : h < 3) : CI l g y_Md_clocksDone 1 [.ref (g.1 16 0), .int (nI h)] σ (nI (don w s.1 h)) σ := by
  have hw := hA.1.2.1
  have hN := hA.1.2.2.1
  have hE : END < 2 ^ 30 := by decide
  refine ofK hg w_cd_Md_clocksDone (by decide) (by decide) (by first | decide | simp) (by simp [Value.category]) ?_
  intro K hK hR
  have hK : Gd l g "GradientShardsModel" b_Md_clocksDone 7 _ K := hK
  have hloop : ∀ d v, v + d = w → K 6 [.ref (g.1 16 0), .int (nI h), .int (nI (minF (fun v => en (s.1 4 (3 * v + h)) (trn s.1 (3 * v + h))) 1000 v)), .int (nI v)] [] σ := by
    intro d
    induction d with
    | zero =>
      intro v hv
      obtain rfl : v = w := by omega
      refine r_iload_n hK d_Md_clocksDone_6 rfl rfl ?_
      refine r_aload_n hK d_Md_clocksDone_7 rfl rfl ?_
      refine r_getI hK d_Md_clocksDone_8 f_Md_50 rfl (in_fix rfl) rfl rfl hM.1.1 ?_
      refine rn_icmp_ge (tgt := 96) hK d_Md_clocksDone_11 (by decide) (by first | omega | (split <;> omega)) (by first | omega | (split <;> omega)) (fun _ => ?_) (fun hno => absurd hno (by omega))
      refine r_iload_n hK d_Md_clocksDone_96 rfl rfl ?_
      exact hR.i d_Md_clocksDone_97 rfl (⟨rfl, rfl⟩)
    | succ d ih =>
      intro v hv
      have hx : 3 * v + h < 3 * w := by omega
      obtain ⟨l1, l2, l3, l4, l5, l6, l7, l8, -⟩ := hA.2.2.1 (3 * v + h) hx
      have htl := trn_le s.1 (3 * v + h)
      have hml := minF_le (fun v => en (s.1 4 (3 * v + h)) (trn s.1 (3 * v + h))) 1000 v
      have hel := en_le (s.1 4 (3 * v + h)) (trn s.1 (3 * v + h))
      have hf : ∀ n, n < s.1 1 (3 * v + h) 0 → s.1 4 (3 * v + h) n < 2 ^ 30 := fun n hn => by
        rcases l6 n hn with e | ⟨e, -, -⟩
        · rw [e]; decide
        · omega
      have ih2 := ih (v + 1) (by omega)
      have e1 : minF (fun v => en (s.1 4 (3 * v + h)) (trn s.1 (3 * v + h))) 1000 (v + 1) = min (minF (fun v => en (s.1 4 (3 * v + h)) (trn s.1 (3 * v + h))) 1000 v) (en (s.1 4 (3 * v + h)) (trn s.1 (3 * v + h))) := rfl
      generalize minF (fun v => en (s.1 4 (3 * v + h)) (trn s.1 (3 * v + h))) 1000 v = mn at *
      have hin : ∀ d i, i + d = trn s.1 (3 * v + h) → K 31 [.ref (g.1 16 0), .int (nI h), .int (nI mn), .int (nI v), .int (nI (trn s.1 (3 * v + h))), .int (nI (en (s.1 4 (3 * v + h)) i)), .int (nI i)] [] σ := by
        intro d
        induction d with
        | zero =>
          intro i hi
          obtain rfl : i = trn s.1 (3 * v + h) := by omega
          refine r_iload hK d_Md_clocksDone_31 rfl ?_
          refine r_iload hK d_Md_clocksDone_33 rfl ?_
          refine rn_icmp_ge (tgt := 77) hK d_Md_clocksDone_35 (by decide) (by first | omega | (split <;> omega)) (by first | omega | (split <;> omega)) (fun _ => ?_) (fun hno => absurd hno (by omega))
          refine r_iload hK d_Md_clocksDone_77 rfl ?_
          refine r_iload_n hK d_Md_clocksDone_79 rfl rfl ?_
          refine rn_icmp_ge (tgt := 88) hK d_Md_clocksDone_80 (by decide) (by first | omega | (split <;> omega)) (by first | omega | (split <;> omega)) (fun q => ?_) (fun q => ?_)
          · rw [e1, Nat.min_eq_left q] at ih2
            refine r_iload_n hK d_Md_clocksDone_88 rfl rfl ?_
            refine r_istore_n hK d_Md_clocksDone_89 rfl rfl rfl ?_
            refine r_iinc hK d_Md_clocksDone_90 rfl (nI_1 _) rfl ?_
            refine r_goto (tgt := 6) hK d_Md_clocksDone_93 (by decide) ?_
            exact r_drop 4 hK ih2
          · rw [e1, Nat.min_eq_right (Nat.le_of_lt q)] at ih2
            refine r_iload hK d_Md_clocksDone_83 rfl ?_
            refine r_goto (tgt := 89) hK d_Md_clocksDone_85 (by decide) ?_
            refine r_istore_n hK d_Md_clocksDone_89 rfl rfl rfl ?_
            refine r_iinc hK d_Md_clocksDone_90 rfl (nI_1 _) rfl ?_
            refine r_goto (tgt := 6) hK d_Md_clocksDone_93 (by decide) ?_
            exact r_drop 4 hK ih2
        | succ d ihi =>
          intro i hi
          have hfi := hf i (by omega)
          have ihi2 := ihi (i + 1) (by omega)
          have e2 : en (s.1 4 (3 * v + h)) (i + 1) = en (s.1 4 (3 * v + h)) i + (if s.1 4 (3 * v + h) i = END then 1 else 0) := rfl
          refine r_iload hK d_Md_clocksDone_31 rfl ?_
          refine r_iload hK d_Md_clocksDone_33 rfl ?_
          refine rn_icmp_ge (tgt := 77) hK d_Md_clocksDone_35 (by decide) (by first | omega | (split <;> omega)) (by first | omega | (split <;> omega)) (fun hno => absurd hno (by omega)) (fun _ => ?_)
          refine r_aload_n hK d_Md_clocksDone_38 rfl rfl ?_
          refine r_getR hK d_Md_clocksDone_39 f_Md_22 rfl (in_fix rfl) rfl rfl ?_
          refine r_sipush (v := nI 512) hK d_Md_clocksDone_42 (by decide) ?_
          refine r_iconst (v := nI 3) hK d_Md_clocksDone_45 (by decide) ?_
          refine r_iload_n hK d_Md_clocksDone_46 rfl rfl ?_
          refine r_imul hK d_Md_clocksDone_47 (pk_mul _ _) ?_
          refine r_iload_n hK d_Md_clocksDone_48 rfl rfl ?_
          refine r_iadd hK d_Md_clocksDone_49 (nI_add _ _) ?_
          refine r_imul hK d_Md_clocksDone_50 (pk_mul _ _) ?_
          refine r_iload hK d_Md_clocksDone_51 rfl ?_
          refine r_iadd hK d_Md_clocksDone_53 (nI_add _ _) ?_
          refine r_iald hK d_Md_clocksDone_54 rfl rfl (in_fix rfl) (ix_nI (j := 512 * (3 * v + h) + i) (by omega)) (by show 512 * (3 * v + h) + i < 6144; omega) (hM.2.2.2.1 (3 * v + h) i hx (by omega)).1 ?_
          refine r_ldc (v := nI END) hK d_Md_clocksDone_55 w_co_Md_81 ?_
          refine rn_icmp_ne (tgt := 67) hK d_Md_clocksDone_57 (by decide) (by first | omega | (split <;> omega)) (by first | omega | (split <;> omega)) (fun q => ?_) (fun q => ?_)
          · rw [e2, if_neg q] at ihi2
            refine r_iload hK d_Md_clocksDone_67 rfl ?_
            refine r_istore hK d_Md_clocksDone_69 rfl rfl ?_
            refine r_iinc hK d_Md_clocksDone_71 rfl (nI_1 _) rfl ?_
            refine r_goto (tgt := 31) hK d_Md_clocksDone_74 (by decide) ?_
            exact ihi2
          · rw [e2, if_pos q] at ihi2
            refine r_iload hK d_Md_clocksDone_60 rfl ?_
            refine r_iconst (v := nI 1) hK d_Md_clocksDone_62 (by decide) ?_
            refine r_iadd hK d_Md_clocksDone_63 (nI_add _ _) ?_
            refine r_goto (tgt := 69) hK d_Md_clocksDone_64 (by decide) ?_
            refine r_istore hK d_Md_clocksDone_69 rfl rfl ?_
            refine r_iinc hK d_Md_clocksDone_71 rfl (nI_1 _) rfl ?_
            refine r_goto (tgt := 31) hK d_Md_clocksDone_74 (by decide) ?_
            exact ihi2
      refine r_iload_n hK d_Md_clocksDone_6 rfl rfl ?_
      refine r_aload_n hK d_Md_clocksDone_7 rfl rfl ?_
      refine r_getI hK d_Md_clocksDone_8 f_Md_50 rfl (in_fix rfl) rfl rfl hM.1.1 ?_
      refine rn_icmp_ge (tgt := 96) hK d_Md_clocksDone_11 (by decide) (by first | omega | (split <;> omega)) (by first | omega | (split <;> omega)) (fun hno => absurd hno (by omega)) (fun _ => ?_)
      refine r_aload_n hK d_Md_clocksDone_14 rfl rfl ?_
      refine r_iconst (v := nI 3) hK d_Md_clocksDone_15 (by decide) ?_
      refine r_iload_n hK d_Md_clocksDone_16 rfl rfl ?_
      refine r_imul hK d_Md_clocksDone_17 (pk_mul _ _) ?_
      refine r_iload_n hK d_Md_clocksDone_18 rfl rfl ?_
      refine r_iadd hK d_Md_clocksDone_19 (nI_add _ _) ?_
      refine r_callVI hK d_Md_clocksDone_20 m_Md_82 rfl (in_fix rfl) (c_Md_turn hg hM hA hx) (by decide) rfl rfl rfl ?_
      refine r_istore hK d_Md_clocksDone_23 rfl rfl ?_
      refine r_iconst (v := nI 0) hK d_Md_clocksDone_25 (by decide) ?_
      refine r_istore hK d_Md_clocksDone_26 rfl rfl ?_
      refine r_iconst (v := nI 0) hK d_Md_clocksDone_28 (by decide) ?_
      refine r_istore hK d_Md_clocksDone_29 rfl rfl ?_
      exact hin (trn s.1 (3 * v + h)) 0 (by omega)
  refine r_sipush (v := nI 1000) hK d_Md_clocksDone_0 (by decide) ?_
  refine r_istore_n hK d_Md_clocksDone_3 rfl rfl rfl ?_
  refine r_iconst (v := nI 0) hK d_Md_clocksDone_4 (by decide) ?_
  refine r_istore_n hK d_Md_clocksDone_5 rfl rfl rfl ?_
  exact hloop w 0 (by omega)
theorem c_Md_root (hg : Gok g) {m : Nat} (hm : m < 2 ^ 31) (hm2 : m < 2 ^ 24) : CI l g y_Md_root 0 [.int (nI m)] σ (nI (isq m)) σ := by
  obtain ⟨h1, h2⟩ := isq_sq m
  have hb : isq m < 5000 := by
    apply Nat.not_le.mp
    intro q
    have := Nat.mul_le_mul q q
    omega
  refine ofK hg w_cd_Md_root (by decide) (by decide) (by first | decide | simp) (by simp [Value.category]) ?_
  intro K hK hR
  have hK : Gd l g "GradientShardsModel" b_Md_root 2 _ K := hK
  have hloop : ∀ d i, i + d = isq m → K 2 [.int (nI m), .int (nI i)] [] σ := by
    intro d
    induction d with
    | zero =>
      intro i hi
      obtain rfl : i = isq m := by omega
      have hbb := Nat.mul_le_mul (show isq m + 1 ≤ 5000 by omega) (show isq m + 1 ≤ 5000 by omega)
      refine r_iload_n hK d_Md_root_2 rfl rfl ?_
      refine r_iconst (v := nI 1) hK d_Md_root_3 (by decide) ?_
      refine r_iadd hK d_Md_root_4 (nI_add _ _) ?_
      refine r_iload_n hK d_Md_root_5 rfl rfl ?_
      refine r_iconst (v := nI 1) hK d_Md_root_6 (by decide) ?_
      refine r_iadd hK d_Md_root_7 (nI_add _ _) ?_
      refine r_imul hK d_Md_root_8 (pk_mul _ _) ?_
      refine r_iload_n hK d_Md_root_9 rfl rfl ?_
      refine rn_icmp_gt (tgt := 20) hK d_Md_root_10 (by decide) (by first | omega | (split <;> omega)) (by first | omega | (split <;> omega)) (fun _ => ?_) (fun hno => absurd hno (by omega))
      refine r_iload_n hK d_Md_root_20 rfl rfl ?_
      exact hR.i d_Md_root_21 rfl (⟨rfl, rfl⟩)
    | succ d ih =>
      intro i hi
      have hq := Nat.mul_le_mul (show i + 1 ≤ isq m by omega) (show i + 1 ≤ isq m by omega)
      refine r_iload_n hK d_Md_root_2 rfl rfl ?_
      refine r_iconst (v := nI 1) hK d_Md_root_3 (by decide) ?_
      refine r_iadd hK d_Md_root_4 (nI_add _ _) ?_
      refine r_iload_n hK d_Md_root_5 rfl rfl ?_
      refine r_iconst (v := nI 1) hK d_Md_root_6 (by decide) ?_
      refine r_iadd hK d_Md_root_7 (nI_add _ _) ?_
      refine r_imul hK d_Md_root_8 (pk_mul _ _) ?_
      refine r_iload_n hK d_Md_root_9 rfl rfl ?_
      refine rn_icmp_gt (tgt := 20) hK d_Md_root_10 (by decide) (by first | omega | (split <;> omega)) (by first | omega | (split <;> omega)) (fun hno => absurd hno (by omega)) (fun _ => ?_)
      refine r_iload_n hK d_Md_root_13 rfl rfl ?_
      refine r_iconst (v := nI 1) hK d_Md_root_14 (by decide) ?_
      refine r_iadd hK d_Md_root_15 (nI_add _ _) ?_
      refine r_istore_n hK d_Md_root_16 rfl rfl rfl ?_
      refine r_goto (tgt := 2) hK d_Md_root_17 (by decide) ?_
      exact ih (i + 1) (by omega)
  refine r_iconst (v := nI 0) hK d_Md_root_0 (by decide) ?_
  refine r_istore_n hK d_Md_root_1 rfl rfl rfl ?_
  exact hloop (isq m) 0 (by omega)
theorem c_Md_contribution (hg : Gok g) (hM : MP w sl ru s σ) (hA : AI w N s) {v k c : Nat} (hv : v < w) (hk : k < 6) (hc : c < 2 ^ 30) : CI l g y_Md_contribution 1 [.ref (g.1 16 0), .int (nI v), .int (nI k), .int (nI c)] σ (con s.1 k c v) σ := by
  have hw := hA.1.2.1
  have hN := hA.1.2.2.1
  have hE : END < 2 ^ 30 := by decide
  have hx : 3 * v + k % 3 < 3 * w := by omega
  obtain ⟨l1, l2, l3, l4, l5, l6, l7, l8, -⟩ := hA.2.2.1 (3 * v + k % 3) hx
  have hbl : bnd s.1 (3 * v + k % 3) c ≤ s.1 1 (3 * v + k % 3) 0 := bnF_le _ _ _
  have hmd := (hM.2.2.1 (3 * v + k % 3) hx).1
  have hf : ∀ n, n < s.1 1 (3 * v + k % 3) 0 → s.1 4 (3 * v + k % 3) n < 2 ^ 30 := fun n hn => by
    rcases l6 n hn with e | ⟨e, -, -⟩
    · rw [e]; decide
    · omega
  refine ofK hg w_cd_Md_contribution (by decide) (by decide) (by first | decide | simp) (by simp [Value.category]) ?_
  intro K hK hR
  have hK : Gd l g "GradientShardsModel" b_Md_contribution 9 _ K := hK
  have hend : ∀ i (m : Int32), i ≤ s.1 1 (3 * v + k % 3) 0 → K 24 [.ref (g.1 16 0), .int (nI v), .int (nI k), .int (nI c), .int (nI (3 * v + k % 3)), .int (con s.1 k c v), .int (nI 1), .int (nI i), .int m] [] σ := by
    intro i m hi
    refine r_iload hK d_Md_contribution_24 rfl ?_
    refine r_aload_n hK d_Md_contribution_26 rfl rfl ?_
    refine r_getR hK d_Md_contribution_27 f_Md_13 rfl (in_fix rfl) rfl rfl ?_
    refine r_iload hK d_Md_contribution_30 rfl ?_
    refine r_iald hK d_Md_contribution_32 rfl rfl (in_fix rfl) (ix_nI (j := 3 * v + k % 3) (by omega)) (by show 3 * v + k % 3 < 12; omega) hmd ?_
    refine rn_icmp_ge (tgt := 109) hK d_Md_contribution_33 (by decide) (by first | omega | (split <;> omega)) (by first | omega | (split <;> omega)) (fun q => ?_) (fun q => ?_)
    · refine r_iload hK d_Md_contribution_109 rfl ?_
      exact hR.i d_Md_contribution_111 rfl (⟨rfl, rfl⟩)
    · refine r_iload hK d_Md_contribution_36 rfl ?_
      refine rn_if_ne (tgt := 109) hK d_Md_contribution_38 (by decide) (by first | omega | (split <;> omega)) (fun _ => ?_) (fun hno => absurd hno (by omega))
      refine r_iload hK d_Md_contribution_109 rfl ?_
      exact hR.i d_Md_contribution_111 rfl (⟨rfl, rfl⟩)
  have hloop : ∀ d i s', i + d = s.1 1 (3 * v + k % 3) 0 → conF (s.1 4 (3 * v + k % 3)) k i d s' = con s.1 k c v → K 24 [.ref (g.1 16 0), .int (nI v), .int (nI k), .int (nI c), .int (nI (3 * v + k % 3)), .int s', .int (nI 0), .int (nI i)] [] σ := by
    intro d
    induction d with
    | zero =>
      intro i s' hi hV
      have hV : s' = con s.1 k c v := hV
      refine r_iload hK d_Md_contribution_24 rfl ?_
      refine r_aload_n hK d_Md_contribution_26 rfl rfl ?_
      refine r_getR hK d_Md_contribution_27 f_Md_13 rfl (in_fix rfl) rfl rfl ?_
      refine r_iload hK d_Md_contribution_30 rfl ?_
      refine r_iald hK d_Md_contribution_32 rfl rfl (in_fix rfl) (ix_nI (j := 3 * v + k % 3) (by omega)) (by show 3 * v + k % 3 < 12; omega) hmd ?_
      refine rn_icmp_ge (tgt := 109) hK d_Md_contribution_33 (by decide) (by first | omega | (split <;> omega)) (by first | omega | (split <;> omega)) (fun _ => ?_) (fun hno => absurd hno (by omega))
      refine r_iload hK d_Md_contribution_109 rfl ?_
      exact hR.i d_Md_contribution_111 rfl (⟨by rw [hV], rfl⟩)
    | succ d ih =>
      intro i s' hi hV
      have hfi := hf i (by omega)
      have hV : (if s.1 4 (3 * v + k % 3) i = END then s' else conF (s.1 4 (3 * v + k % 3)) k (i + 1) d (if s.1 4 (3 * v + k % 3) i / 1000 = k then nar (s' + nI (s.1 4 (3 * v + k % 3) i % 1000) - nI 100) else s')) = con s.1 k c v := hV
      by_cases hq : s.1 4 (3 * v + k % 3) i = END
      · rw [if_pos hq] at hV
        subst hV
        refine r_iload hK d_Md_contribution_24 rfl ?_
        refine r_aload_n hK d_Md_contribution_26 rfl rfl ?_
        refine r_getR hK d_Md_contribution_27 f_Md_13 rfl (in_fix rfl) rfl rfl ?_
        refine r_iload hK d_Md_contribution_30 rfl ?_
        refine r_iald hK d_Md_contribution_32 rfl rfl (in_fix rfl) (ix_nI (j := 3 * v + k % 3) (by omega)) (by show 3 * v + k % 3 < 12; omega) hmd ?_
        refine rn_icmp_ge (tgt := 109) hK d_Md_contribution_33 (by decide) (by first | omega | (split <;> omega)) (by first | omega | (split <;> omega)) (fun hno => absurd hno (by omega)) (fun _ => ?_)
        refine r_iload hK d_Md_contribution_36 rfl ?_
        refine rn_if_ne (tgt := 109) hK d_Md_contribution_38 (by decide) (by first | omega | (split <;> omega)) (fun hno => absurd hno (by omega)) (fun _ => ?_)
        refine r_aload_n hK d_Md_contribution_41 rfl rfl ?_
        refine r_getR hK d_Md_contribution_42 f_Md_22 rfl (in_fix rfl) rfl rfl ?_
        refine r_sipush (v := nI 512) hK d_Md_contribution_45 (by decide) ?_
        refine r_iload hK d_Md_contribution_48 rfl ?_
        refine r_imul hK d_Md_contribution_50 (pk_mul _ _) ?_
        refine r_iload hK d_Md_contribution_51 rfl ?_
        refine r_iadd hK d_Md_contribution_53 (nI_add _ _) ?_
        refine r_iald hK d_Md_contribution_54 rfl rfl (in_fix rfl) (ix_nI (j := 512 * (3 * v + k % 3) + i) (by omega)) (by show 512 * (3 * v + k % 3) + i < 6144; omega) (hM.2.2.2.1 (3 * v + k % 3) i hx (by omega)).1 ?_
        refine r_istore hK d_Md_contribution_55 rfl rfl ?_
        refine r_iload hK d_Md_contribution_57 rfl ?_
        refine r_ldc (v := nI END) hK d_Md_contribution_59 w_co_Md_81 ?_
        refine rn_icmp_ne (tgt := 68) hK d_Md_contribution_61 (by decide) (by first | omega | (split <;> omega)) (by first | omega | (split <;> omega)) (fun hno => absurd hno (by omega)) (fun _ => ?_)
        refine r_iconst (v := nI 1) hK d_Md_contribution_64 (by decide) ?_
        refine r_goto (tgt := 69) hK d_Md_contribution_65 (by decide) ?_
        refine r_istore hK d_Md_contribution_69 rfl rfl ?_
        refine r_iload hK d_Md_contribution_71 rfl ?_
        refine rn_if_ne (tgt := 103) hK d_Md_contribution_73 (by decide) (by first | omega | (split <;> omega)) (fun _ => ?_) (fun hno => absurd hno (by omega))
        refine r_iinc hK d_Md_contribution_103 rfl (nI_1 _) rfl ?_
        refine r_goto (tgt := 24) hK d_Md_contribution_106 (by decide) ?_
        exact hend (i + 1) _ (by omega)
      · rw [if_neg hq] at hV
        refine r_iload hK d_Md_contribution_24 rfl ?_
        refine r_aload_n hK d_Md_contribution_26 rfl rfl ?_
        refine r_getR hK d_Md_contribution_27 f_Md_13 rfl (in_fix rfl) rfl rfl ?_
        refine r_iload hK d_Md_contribution_30 rfl ?_
        refine r_iald hK d_Md_contribution_32 rfl rfl (in_fix rfl) (ix_nI (j := 3 * v + k % 3) (by omega)) (by show 3 * v + k % 3 < 12; omega) hmd ?_
        refine rn_icmp_ge (tgt := 109) hK d_Md_contribution_33 (by decide) (by first | omega | (split <;> omega)) (by first | omega | (split <;> omega)) (fun hno => absurd hno (by omega)) (fun _ => ?_)
        refine r_iload hK d_Md_contribution_36 rfl ?_
        refine rn_if_ne (tgt := 109) hK d_Md_contribution_38 (by decide) (by first | omega | (split <;> omega)) (fun hno => absurd hno (by omega)) (fun _ => ?_)
        refine r_aload_n hK d_Md_contribution_41 rfl rfl ?_
        refine r_getR hK d_Md_contribution_42 f_Md_22 rfl (in_fix rfl) rfl rfl ?_
        refine r_sipush (v := nI 512) hK d_Md_contribution_45 (by decide) ?_
        refine r_iload hK d_Md_contribution_48 rfl ?_
        refine r_imul hK d_Md_contribution_50 (pk_mul _ _) ?_
        refine r_iload hK d_Md_contribution_51 rfl ?_
        refine r_iadd hK d_Md_contribution_53 (nI_add _ _) ?_
        refine r_iald hK d_Md_contribution_54 rfl rfl (in_fix rfl) (ix_nI (j := 512 * (3 * v + k % 3) + i) (by omega)) (by show 512 * (3 * v + k % 3) + i < 6144; omega) (hM.2.2.2.1 (3 * v + k % 3) i hx (by omega)).1 ?_
        refine r_istore hK d_Md_contribution_55 rfl rfl ?_
        refine r_iload hK d_Md_contribution_57 rfl ?_
        refine r_ldc (v := nI END) hK d_Md_contribution_59 w_co_Md_81 ?_
        refine rn_icmp_ne (tgt := 68) hK d_Md_contribution_61 (by decide) (by first | omega | (split <;> omega)) (by first | omega | (split <;> omega)) (fun _ => ?_) (fun hno => absurd hno (by omega))
        refine r_iconst (v := nI 0) hK d_Md_contribution_68 (by decide) ?_
        refine r_istore hK d_Md_contribution_69 rfl rfl ?_
        refine r_iload hK d_Md_contribution_71 rfl ?_
        refine rn_if_ne (tgt := 103) hK d_Md_contribution_73 (by decide) (by first | omega | (split <;> omega)) (fun hno => absurd hno (by omega)) (fun _ => ?_)
        refine r_iload hK d_Md_contribution_76 rfl ?_
        refine r_sipush (v := nI 1000) hK d_Md_contribution_78 (by decide) ?_
        refine r_idiv hK d_Md_contribution_81 (by decide) (pk_div (by omega) (by decide) (by decide)) ?_
        refine r_iload_n hK d_Md_contribution_82 rfl rfl ?_
        refine rn_icmp_ne (tgt := 103) hK d_Md_contribution_83 (by decide) (by first | omega | (split <;> omega)) (by first | omega | (split <;> omega)) (fun q2 => ?_) (fun q2 => ?_)
        · rw [if_neg q2] at hV
          refine r_iinc hK d_Md_contribution_103 rfl (nI_1 _) rfl ?_
          refine r_goto (tgt := 24) hK d_Md_contribution_106 (by decide) ?_
          exact r_drop 8 hK (ih (i + 1) _ (by omega) hV)
        · rw [if_pos q2] at hV
          refine r_iload hK d_Md_contribution_86 rfl ?_
          refine r_iload hK d_Md_contribution_88 rfl ?_
          refine r_sipush (v := nI 1000) hK d_Md_contribution_90 (by decide) ?_
          refine r_irem hK d_Md_contribution_93 (by decide) (pk_rem (by omega) (by decide) (by decide)) ?_
          refine r_iadd hK d_Md_contribution_94 rfl ?_
          refine r_bipush (v := nI 100) hK d_Md_contribution_95 (by decide) ?_
          refine r_isub hK d_Md_contribution_97 rfl ?_
          refine r_callSI hK d_Md_contribution_98 m_Md_90 (c_Md_narrow hg _) (by decide) rfl rfl rfl ?_
          refine r_istore hK d_Md_contribution_101 rfl rfl ?_
          refine r_iinc hK d_Md_contribution_103 rfl (nI_1 _) rfl ?_
          refine r_goto (tgt := 24) hK d_Md_contribution_106 (by decide) ?_
          exact r_drop 8 hK (ih (i + 1) _ (by omega) hV)
  refine r_iconst (v := nI 3) hK d_Md_contribution_0 (by decide) ?_
  refine r_iload_n hK d_Md_contribution_1 rfl rfl ?_
  refine r_imul hK d_Md_contribution_2 (pk_mul _ _) ?_
  refine r_iload_n hK d_Md_contribution_3 rfl rfl ?_
  refine r_iconst (v := nI 3) hK d_Md_contribution_4 (by decide) ?_
  refine r_irem hK d_Md_contribution_5 (by decide) (pk_rem (by omega) (by decide) (by decide)) ?_
  refine r_iadd hK d_Md_contribution_6 (nI_add _ _) ?_
  refine r_istore hK d_Md_contribution_7 rfl rfl ?_
  refine r_iconst (v := nI 0) hK d_Md_contribution_9 (by decide) ?_
  refine r_istore hK d_Md_contribution_10 rfl rfl ?_
  refine r_iconst (v := nI 0) hK d_Md_contribution_12 (by decide) ?_
  refine r_istore hK d_Md_contribution_13 rfl rfl ?_
  refine r_aload_n hK d_Md_contribution_15 rfl rfl ?_
  refine r_iload hK d_Md_contribution_16 rfl ?_
  refine r_iload_n hK d_Md_contribution_18 rfl rfl ?_
  refine r_callVI hK d_Md_contribution_19 m_Md_86 rfl (in_fix rfl) (c_Md_boundary hg hM hA hx hc) (by decide) rfl rfl rfl ?_
  refine r_istore hK d_Md_contribution_22 rfl rfl ?_
  exact hloop (s.1 1 (3 * v + k % 3) 0 - bnd s.1 (3 * v + k % 3) c) (bnd s.1 (3 * v + k % 3) c) (nI 0) (by omega) rfl
end Md
