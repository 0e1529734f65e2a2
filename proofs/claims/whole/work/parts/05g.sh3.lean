/-! Shard: checkpoint made, gone back to -/
def MkI (w h : Nat) (bd st cf : Nat → Nat) (d : Nat) (σ : Sg) (u : Nat) (τ : Sg) : Prop :=
  (∀ p, p < 2 → τ 9 h p = σ 7 h p ∧ τ 10 h p = σ 8 h p) ∧ τ 5 h 7 = nI d ∧ (∀ v, v < w → τ 11 (3 * v + h) 7 = nI (if v < u then bd v else st v) ∧ τ 11 (3 * v + h) 8 = nI (if v < u then max (cf v) (bd v) else cf v)) ∧
  ∀ k n j, ¬ (k = 9 ∧ n = h) → ¬ (k = 10 ∧ n = h) → ¬ (k = 5 ∧ n = h ∧ j = 7) → ¬ (k = 11 ∧ n % 3 = h ∧ (j = 7 ∨ j = 8)) → τ k n j = σ k n j
theorem MkI_u {w h : Nat} {bd st cf : Nat → Nat} {d : Nat} {σ τ : Sg} {u : Nat} (hh : h < 3) (q : MkI w h bd st cf d σ u τ) : MkI w h bd st cf d σ (u + 1) (up (up τ 11 (3 * u + h) 7 (nI (bd u))) 11 (3 * u + h) 8 (nI (max (cf u) (bd u)))) := by
  obtain ⟨q1, q2, q3, q4⟩ := q
  refine ⟨fun p hp => by simp [up_eq]; exact q1 p hp, by simp [up_eq, q2], fun v hv => ?_, fun k n j h1 h2 h3 h4 => ?_⟩
  · by_cases e : v = u
    · subst e
      rw [if_pos (by omega), if_pos (by omega)]
      exact ⟨by simp [up_eq], by simp [up_eq]⟩
    · have h5 : 3 * v + h ≠ 3 * u + h := by omega
      have := q3 v hv
      rw [show (if v < u + 1 then bd v else st v) = (if v < u then bd v else st v) by split <;> split <;> first | rfl | omega, show (if v < u + 1 then max (cf v) (bd v) else cf v) = (if v < u then max (cf v) (bd v) else cf v) by split <;> split <;> first | rfl | omega]
      rw [up_kn (fun z => h5 z.2), up_kn (fun z => h5 z.2)]
      exact this
  · rw [up_eq, if_neg (fun z => h4 ⟨z.1, by omega, Or.inr z.2.2⟩), up_eq, if_neg (fun z => h4 ⟨z.1, by omega, Or.inl z.2.2⟩)]
    exact q4 k n j h1 h2 h3 h4
def GbI (w h : Nat) (st : Nat → Nat) (d : Nat) (σ : Sg) (u : Nat) (τ : Sg) : Prop :=
  (∀ p, p < 2 → τ 7 h p = σ 9 h p ∧ τ 8 h p = σ 10 h p) ∧ τ 5 h 6 = nI d ∧ (∀ v, v < u → τ 11 (3 * v + h) 9 = nI (st v) ∧ τ 11 (3 * v + h) 11 = nI (st v) ∧ τ 11 (3 * v + h) 8 = nI (st v) ∧ τ 11 (3 * v + h) 10 = nI d ∧ ∀ j, j < 32 → τ 15 (3 * v + h) j = nI 0) ∧
  ∀ k n j, ¬ (k = 7 ∧ n = h) → ¬ (k = 8 ∧ n = h) → ¬ (k = 5 ∧ n = h ∧ j = 6) → ¬ (k = 11 ∧ n % 3 = h ∧ 8 ≤ j) → ¬ (k = 15 ∧ n % 3 = h) → τ k n j = σ k n j
theorem gbS_15 (σ : Sg) (x a : Nat) (e : Int32) : gbS σ x a e 15 x = fun j => if j < 32 then nI 0 else σ 15 x j := by unfold gbS; exact upr_at _ _ _ _
theorem gbS_ne {σ : Sg} {x a : Nat} {e : Int32} {k n : Nat} (h : n ≠ x ∨ (k ≠ 11 ∧ k ≠ 15)) : gbS σ x a e k n = σ k n := by
  unfold gbS
  rw [upr_ne (by omega), up_kn (by omega), up_kn (by omega), up_kn (by omega), up_kn (by omega)]
theorem gbS_11 {σ : Sg} {x a : Nat} {e : Int32} {j : Nat} : gbS σ x a e 11 x j = if j = 10 then e else if j = 8 ∨ j = 9 ∨ j = 11 then nI a else σ 11 x j := by
  unfold gbS
  rw [upr_k (by decide)]
  simp only [up_eq]
  by_cases h10 : j = 10
  · simp [h10]
  · by_cases h8 : j = 8
    · simp [h8]
    · by_cases h9 : j = 9
      · simp [h9]
      · by_cases h11 : j = 11
        · simp [h11]
        · simp [h8, h9, h10, h11]
theorem GbI_u {w h : Nat} {st : Nat → Nat} {d : Nat} {σ τ : Sg} {u : Nat} (hh : h < 3) (q : GbI w h st d σ u τ) : GbI w h st d σ (u + 1) (gbS τ (3 * u + h) (st u) (nI d)) := by
  obtain ⟨q1, q2, q3, q4⟩ := q
  refine ⟨fun p hp => ?_, ?_, fun v hv => ?_, fun k n j h1 h2 h3 h4 h5 => ?_⟩
  · rw [gbS_ne (Or.inr (by decide)), gbS_ne (Or.inr (by decide))]
    exact q1 p hp
  · rw [gbS_ne (Or.inr (by decide))]
    exact q2
  · by_cases e : v = u
    · subst e
      rw [gbS_11, gbS_11, gbS_11, gbS_11, gbS_15]
      exact ⟨rfl, rfl, rfl, rfl, fun j hj => if_pos hj⟩
    · rw [gbS_ne (Or.inl (by omega)), gbS_ne (Or.inl (by omega))]
      exact q3 v (by omega)
  · by_cases e : n = 3 * u + h
    · by_cases e1 : k = 11
      · subst e; subst e1
        rw [gbS_11, if_neg (by omega), if_neg (by omega)]
        exact q4 11 _ j h1 h2 h3 h4 h5
      · rw [gbS_ne (Or.inr ⟨e1, fun z => h5 ⟨z, by omega⟩⟩)]
        exact q4 k n j h1 h2 h3 h4 h5
    · rw [gbS_ne (Or.inl e)]
      exact q4 k n j h1 h2 h3 h4 h5
section Sh3
variable {l : Launch} {g : Gc} {σ : Sg} {h : Nat}
theorem c_Sh_makeCheckpoint (hg : Gok g) (hh : h < 3) {d : Nat} {bd st cf : Nat → Nat} (hw : g.2.1 ≤ 4) (h6 : σ 5 h 6 = nI d) (h11 : ∀ v, v < g.2.1 → σ 11 (3 * v + h) 11 = nI (bd v)) (h7 : ∀ v, v < g.2.1 → σ 11 (3 * v + h) 7 = nI (st v)) (h8 : ∀ v, v < g.2.1 → σ 11 (3 * v + h) 8 = nI (cf v)) (hle : ∀ v, v < g.2.1 → st v ≤ bd v ∧ bd v < 2 ^ 30 ∧ cf v < 2 ^ 30) :
    Ct l g y_Sh_makeCheckpoint 2 [.ref (g.1 5 h)] σ (fun r τ => r = some (.int (nI (totF (fun v => bd v - st v) g.2.1))) ∧ MkI g.2.1 h bd st cf d σ g.2.1 τ) := by
  have i0 : Ix (nI 0) 0 := ix_nI (by decide)
  have i2 : Ix (nI 2) 2 := ix_nI (by decide)
  refine ofK hg w_cd_Sh_makeCheckpoint (by decide) (by decide) (by first | decide | simp) (by simp [Value.category]) ?_
  intro K hK hR
  have hK : Gd l g "GradientShards$Shard" b_Sh_makeCheckpoint 6 _ K := hK
  have hloop : ∀ k i τ, i + k = g.2.1 → MkI g.2.1 h bd st cf d σ i τ → K 49 [.ref (g.1 5 h), .int (nI (totF (fun v => bd v - st v) i)), .ref (g.1 6 h), .int (nI g.2.1), .int (nI i)] [] τ := by
    intro k
    induction k with
    | zero =>
      intro i τ hi hM
      obtain rfl : i = g.2.1 := by omega
      refine r_iload hK d_Sh_makeCheckpoint_49 rfl ?_
      refine r_iload_n hK d_Sh_makeCheckpoint_51 rfl rfl ?_
      refine rn_icmp_ge (tgt := 75) hK d_Sh_makeCheckpoint_52 (by decide) (by first | omega | (split <;> omega)) (by first | omega | (split <;> omega)) (fun _ => ?_) (fun hno => absurd hno (by omega))
      refine r_iload_n hK d_Sh_makeCheckpoint_75 rfl rfl ?_
      exact hR.i d_Sh_makeCheckpoint_76 rfl (⟨rfl, hM⟩)
    | succ k ih =>
      intro i τ hi hM
      have hiw : i < g.2.1 := by omega
      have hlk : 3 * i + h < 3 * g.2.1 := by omega
      have t78 := hM.2.2.1 i hiw
      rw [if_neg (Nat.lt_irrefl _), if_neg (Nat.lt_irrefl _)] at t78
      have t11 : τ 11 (3 * i + h) 11 = nI (bd i) := by rw [hM.2.2.2 11 (3 * i + h) 11 (by omega) (by omega) (by omega) (by omega)]; exact h11 i hiw
      have hl := hle i hiw
      refine r_iload hK d_Sh_makeCheckpoint_49 rfl ?_
      refine r_iload_n hK d_Sh_makeCheckpoint_51 rfl rfl ?_
      refine rn_icmp_ge (tgt := 75) hK d_Sh_makeCheckpoint_52 (by decide) (by first | omega | (split <;> omega)) (by first | omega | (split <;> omega)) (fun hno => absurd hno (by omega)) (fun _ => ?_)
      refine r_aload_n hK d_Sh_makeCheckpoint_55 rfl rfl ?_
      refine r_iload hK d_Sh_makeCheckpoint_56 rfl ?_
      refine r_aald hK d_Sh_makeCheckpoint_58 rfl (Or.inr rfl) (in_sh rfl (by assumption)) (ix_nI (j := i) (by omega)) (by show i < g.2.1; omega) rfl ?_
      refine r_astore hK d_Sh_makeCheckpoint_59 rfl rfl ?_
      refine r_iload_n hK d_Sh_makeCheckpoint_61 rfl rfl ?_
      refine r_aload hK d_Sh_makeCheckpoint_62 rfl ?_
      refine r_callVI hK d_Sh_makeCheckpoint_64 m_Sh_88 rfl (in_lk rfl (by assumption)) (c_Lk_keepFromBoundary hg hlk t78.1 t78.2 t11 hl.1 hl.2.1 hl.2.2) (by decide) rfl rfl rfl ?_
      refine r_iadd hK d_Sh_makeCheckpoint_67 (nI_add _ _) ?_
      refine r_istore_n hK d_Sh_makeCheckpoint_68 rfl rfl rfl ?_
      refine r_iinc hK d_Sh_makeCheckpoint_69 rfl (nI_1 _) rfl ?_
      refine r_goto (tgt := 49) hK d_Sh_makeCheckpoint_72 (by decide) ?_
      exact r_drop 5 hK (ih (i + 1) _ (by omega) (MkI_u hh hM))
  generalize hS : up (upr (upr σ 9 h (va_cpy (σ 7 h) (σ 9 h) 0 0 2)) 10 h (va_cpy (σ 8 h) (σ 10 h) 0 0 2)) 5 h 7 (nI d) = S
  have hM0 : MkI g.2.1 h bd st cf d σ 0 S := by
    have hrow : ∀ k n, ¬ (k = 9 ∧ n = h) → ¬ (k = 10 ∧ n = h) → ¬ (k = 5 ∧ n = h) → S k n = σ k n := fun k n h1 h2 h3 => by
      rw [← hS, up_kn h3, upr_ne h2, upr_ne h1]
    refine ⟨fun p hp => ?_, ?_, fun v hv => ?_, fun k n j h1 h2 h3 h4 => ?_⟩
    · rw [← hS]
      constructor
      · rw [up_k (by decide), upr_k (by decide), upr_at, pk_cpy_in (by omega) (by omega), show 0 + (p - 0) = p by omega]
      · rw [up_k (by decide), upr_at, pk_cpy_in (by omega) (by omega), show 0 + (p - 0) = p by omega]
    · rw [← hS]; simp [up_eq]
    · rw [hrow 11 _ (by omega) (by omega) (by omega)]
      exact ⟨h7 v hv, h8 v hv⟩
    · by_cases q : k = 5 ∧ n = h
      · rw [← hS, up_eq, if_neg h3, upr_ne (by omega), upr_ne (by omega)]
      · rw [hrow k n h1 h2 q]
  refine r_aload_n hK d_Sh_makeCheckpoint_0 rfl rfl ?_
  refine r_getR hK d_Sh_makeCheckpoint_1 f_Sh_9 rfl (in_sh rfl (by assumption)) rfl rfl ?_
  refine r_iconst (v := nI 0) hK d_Sh_makeCheckpoint_4 (by decide) ?_
  refine r_aload_n hK d_Sh_makeCheckpoint_5 rfl rfl ?_
  refine r_getR hK d_Sh_makeCheckpoint_6 f_Sh_18 rfl (in_sh rfl (by assumption)) rfl rfl ?_
  refine r_iconst (v := nI 0) hK d_Sh_makeCheckpoint_9 (by decide) ?_
  refine r_iconst (v := nI 2) hK d_Sh_makeCheckpoint_10 (by decide) ?_
  refine r_copy hK d_Sh_makeCheckpoint_11 a_Sh_79 (by decide) rfl rfl rfl rfl (in_sh rfl hh) (in_sh rfl hh) i0 i0 i2 (Nat.le_refl 2) (Nat.le_refl 2) (Nat.le_of_ble_eq_true rfl) ?_
  refine r_aload_n hK d_Sh_makeCheckpoint_14 rfl rfl ?_
  refine r_getR hK d_Sh_makeCheckpoint_15 f_Sh_15 rfl (in_sh rfl (by assumption)) rfl rfl ?_
  refine r_iconst (v := nI 0) hK d_Sh_makeCheckpoint_18 (by decide) ?_
  refine r_aload_n hK d_Sh_makeCheckpoint_19 rfl rfl ?_
  refine r_getR hK d_Sh_makeCheckpoint_20 f_Sh_21 rfl (in_sh rfl (by assumption)) rfl rfl ?_
  refine r_iconst (v := nI 0) hK d_Sh_makeCheckpoint_23 (by decide) ?_
  refine r_iconst (v := nI 2) hK d_Sh_makeCheckpoint_24 (by decide) ?_
  refine r_copy hK d_Sh_makeCheckpoint_25 a_Sh_79 (by decide) rfl rfl rfl rfl (in_sh rfl hh) (in_sh rfl hh) i0 i0 i2 (Nat.le_refl 2) (Nat.le_refl 2) (Nat.le_of_ble_eq_true rfl) ?_
  refine r_aload_n hK d_Sh_makeCheckpoint_28 rfl rfl ?_
  refine r_aload_n hK d_Sh_makeCheckpoint_29 rfl rfl ?_
  refine r_getI hK d_Sh_makeCheckpoint_30 f_Sh_57 rfl (in_sh rfl (by assumption)) rfl rfl (v := nI d) (by rw [upr_k (by decide), upr_k (by decide)]; exact h6) ?_
  refine r_putI hK d_Sh_makeCheckpoint_33 f_Sh_85 rfl (in_sh rfl (by assumption)) rfl rfl rfl rfl ?_
  rw [upr_k (σ := σ) (k := 9) (k' := 8) (by decide), upr_k (σ := σ) (k := 9) (k' := 10) (by decide), hS]
  refine r_iconst (v := nI 0) hK d_Sh_makeCheckpoint_36 (by decide) ?_
  refine r_istore_n hK d_Sh_makeCheckpoint_37 rfl rfl rfl ?_
  refine r_aload_n hK d_Sh_makeCheckpoint_38 rfl rfl ?_
  refine r_getR hK d_Sh_makeCheckpoint_39 f_Sh_34 rfl (in_sh rfl (by assumption)) rfl rfl ?_
  refine r_astore_n hK d_Sh_makeCheckpoint_42 rfl rfl rfl ?_
  refine r_aload_n hK d_Sh_makeCheckpoint_43 rfl rfl ?_
  refine r_alen hK d_Sh_makeCheckpoint_44 rfl rfl (in_sh rfl (by assumption)) ?_
  refine r_istore_n hK d_Sh_makeCheckpoint_45 rfl rfl rfl ?_
  refine r_iconst (v := nI 0) hK d_Sh_makeCheckpoint_46 (by decide) ?_
  refine r_istore hK d_Sh_makeCheckpoint_47 rfl rfl ?_
  exact hloop g.2.1 0 S (by omega) hM0
theorem c_Sh_goBack (hg : Gok g) (hh : h < 3) {d : Nat} {st : Nat → Nat} (hw : g.2.1 ≤ 4) (h57 : σ 5 h 7 = nI d) (h7 : ∀ v, v < g.2.1 → σ 11 (3 * v + h) 7 = nI (st v)) :
    Ct l g y_Sh_goBackToCheckpoint 2 [.ref (g.1 5 h)] σ (fun r τ => r = none ∧ ∃ τ0, GbI g.2.1 h st d σ g.2.1 τ0 ∧ τ = up τ0 5 h 8 (nI 1)) := by
  have i0 : Ix (nI 0) 0 := ix_nI (by decide)
  have i2 : Ix (nI 2) 2 := ix_nI (by decide)
  refine ofK hg w_cd_Sh_goBackToCheckpoint (by decide) (by decide) (by first | decide | simp) (by simp [Value.category]) ?_
  intro K hK hR
  have hK : Gd l g "GradientShards$Shard" b_Sh_goBackToCheckpoint 5 _ K := hK
  have hloop : ∀ k i τ, i + k = g.2.1 → GbI g.2.1 h st d σ i τ → K 46 [.ref (g.1 5 h), .ref (g.1 6 h), .int (nI g.2.1), .int (nI i)] [] τ := by
    intro k
    induction k with
    | zero =>
      intro i τ hi hM
      obtain rfl : i = g.2.1 := by omega
      refine r_iload_n hK d_Sh_goBackToCheckpoint_46 rfl rfl ?_
      refine r_iload_n hK d_Sh_goBackToCheckpoint_47 rfl rfl ?_
      refine rn_icmp_ge (tgt := 71) hK d_Sh_goBackToCheckpoint_48 (by decide) (by first | omega | (split <;> omega)) (by first | omega | (split <;> omega)) (fun _ => ?_) (fun hno => absurd hno (by omega))
      refine r_aload_n hK d_Sh_goBackToCheckpoint_71 rfl rfl ?_
      refine r_iconst (v := nI 1) hK d_Sh_goBackToCheckpoint_72 (by decide) ?_
      refine r_putI hK d_Sh_goBackToCheckpoint_73 f_Sh_24 rfl (in_sh rfl (by assumption)) rfl rfl rfl rfl ?_
      exact hR.v d_Sh_goBackToCheckpoint_76 (⟨rfl, τ, hM, rfl⟩)
    | succ k ih =>
      intro i τ hi hM
      have hiw : i < g.2.1 := by omega
      have hlk : 3 * i + h < 3 * g.2.1 := by omega
      have t7 : τ 11 (3 * i + h) 7 = nI (st i) := by rw [hM.2.2.2 11 (3 * i + h) 7 (by omega) (by omega) (by omega) (by omega) (by omega)]; exact h7 i hiw
      have t57 : τ 5 h 7 = nI d := by rw [hM.2.2.2 5 h 7 (by omega) (by omega) (by omega) (by omega) (by omega)]; exact h57
      refine r_iload_n hK d_Sh_goBackToCheckpoint_46 rfl rfl ?_
      refine r_iload_n hK d_Sh_goBackToCheckpoint_47 rfl rfl ?_
      refine rn_icmp_ge (tgt := 71) hK d_Sh_goBackToCheckpoint_48 (by decide) (by first | omega | (split <;> omega)) (by first | omega | (split <;> omega)) (fun hno => absurd hno (by omega)) (fun _ => ?_)
      refine r_aload_n hK d_Sh_goBackToCheckpoint_51 rfl rfl ?_
      refine r_iload_n hK d_Sh_goBackToCheckpoint_52 rfl rfl ?_
      refine r_aald hK d_Sh_goBackToCheckpoint_53 rfl (Or.inr rfl) (in_sh rfl (by assumption)) (ix_nI (j := i) (by omega)) (by show i < g.2.1; omega) rfl ?_
      refine r_astore hK d_Sh_goBackToCheckpoint_54 rfl rfl ?_
      refine r_aload hK d_Sh_goBackToCheckpoint_56 rfl ?_
      refine r_aload_n hK d_Sh_goBackToCheckpoint_58 rfl rfl ?_
      refine r_getI hK d_Sh_goBackToCheckpoint_59 f_Sh_85 rfl (in_sh rfl (by assumption)) rfl rfl t57 ?_
      refine r_callVV hK d_Sh_goBackToCheckpoint_62 m_Sh_91 rfl (in_lk rfl (by assumption)) (c_Lk_goBackToStart hg hlk t7) (by decide) rfl rfl rfl ?_
      refine r_iinc hK d_Sh_goBackToCheckpoint_65 rfl (nI_1 _) rfl ?_
      refine r_goto (tgt := 46) hK d_Sh_goBackToCheckpoint_68 (by decide) ?_
      exact r_drop 4 hK (ih (i + 1) _ (by omega) (GbI_u hh hM))
  generalize hS : up (upr (upr σ 7 h (va_cpy (σ 9 h) (σ 7 h) 0 0 2)) 8 h (va_cpy (σ 10 h) (σ 8 h) 0 0 2)) 5 h 6 (nI d) = S
  have hM0 : GbI g.2.1 h st d σ 0 S := by
    refine ⟨fun p hp => ?_, ?_, fun v hv => absurd hv (Nat.not_lt_zero _), fun k n j h1 h2 h3 h4 h5 => ?_⟩
    · rw [← hS]
      constructor
      · rw [up_k (by decide), upr_k (by decide), upr_at, pk_cpy_in (by omega) (by omega), show 0 + (p - 0) = p by omega]
      · rw [up_k (by decide), upr_at, pk_cpy_in (by omega) (by omega), show 0 + (p - 0) = p by omega]
    · rw [← hS]; simp [up_eq]
    · rw [← hS, up_eq, if_neg h3, upr_ne h2, upr_ne h1]
  refine r_aload_n hK d_Sh_goBackToCheckpoint_0 rfl rfl ?_
  refine r_getR hK d_Sh_goBackToCheckpoint_1 f_Sh_18 rfl (in_sh rfl (by assumption)) rfl rfl ?_
  refine r_iconst (v := nI 0) hK d_Sh_goBackToCheckpoint_4 (by decide) ?_
  refine r_aload_n hK d_Sh_goBackToCheckpoint_5 rfl rfl ?_
  refine r_getR hK d_Sh_goBackToCheckpoint_6 f_Sh_9 rfl (in_sh rfl (by assumption)) rfl rfl ?_
  refine r_iconst (v := nI 0) hK d_Sh_goBackToCheckpoint_9 (by decide) ?_
  refine r_iconst (v := nI 2) hK d_Sh_goBackToCheckpoint_10 (by decide) ?_
  refine r_copy hK d_Sh_goBackToCheckpoint_11 a_Sh_79 (by decide) rfl rfl rfl rfl (in_sh rfl hh) (in_sh rfl hh) i0 i0 i2 (Nat.le_refl 2) (Nat.le_refl 2) (Nat.le_of_ble_eq_true rfl) ?_
  refine r_aload_n hK d_Sh_goBackToCheckpoint_14 rfl rfl ?_
  refine r_getR hK d_Sh_goBackToCheckpoint_15 f_Sh_21 rfl (in_sh rfl (by assumption)) rfl rfl ?_
  refine r_iconst (v := nI 0) hK d_Sh_goBackToCheckpoint_18 (by decide) ?_
  refine r_aload_n hK d_Sh_goBackToCheckpoint_19 rfl rfl ?_
  refine r_getR hK d_Sh_goBackToCheckpoint_20 f_Sh_15 rfl (in_sh rfl (by assumption)) rfl rfl ?_
  refine r_iconst (v := nI 0) hK d_Sh_goBackToCheckpoint_23 (by decide) ?_
  refine r_iconst (v := nI 2) hK d_Sh_goBackToCheckpoint_24 (by decide) ?_
  refine r_copy hK d_Sh_goBackToCheckpoint_25 a_Sh_79 (by decide) rfl rfl rfl rfl (in_sh rfl hh) (in_sh rfl hh) i0 i0 i2 (Nat.le_refl 2) (Nat.le_refl 2) (Nat.le_of_ble_eq_true rfl) ?_
  refine r_aload_n hK d_Sh_goBackToCheckpoint_28 rfl rfl ?_
  refine r_aload_n hK d_Sh_goBackToCheckpoint_29 rfl rfl ?_
  refine r_getI hK d_Sh_goBackToCheckpoint_30 f_Sh_85 rfl (in_sh rfl (by assumption)) rfl rfl (v := nI d) (by rw [upr_k (by decide), upr_k (by decide)]; exact h57) ?_
  refine r_putI hK d_Sh_goBackToCheckpoint_33 f_Sh_57 rfl (in_sh rfl (by assumption)) rfl rfl rfl rfl ?_
  rw [upr_k (σ := σ) (k := 7) (k' := 10) (by decide), upr_k (σ := σ) (k := 7) (k' := 8) (by decide), hS]
  refine r_aload_n hK d_Sh_goBackToCheckpoint_36 rfl rfl ?_
  refine r_getR hK d_Sh_goBackToCheckpoint_37 f_Sh_34 rfl (in_sh rfl (by assumption)) rfl rfl ?_
  refine r_astore_n hK d_Sh_goBackToCheckpoint_40 rfl rfl rfl ?_
  refine r_aload_n hK d_Sh_goBackToCheckpoint_41 rfl rfl ?_
  refine r_alen hK d_Sh_goBackToCheckpoint_42 rfl rfl (in_sh rfl (by assumption)) ?_
  refine r_istore_n hK d_Sh_goBackToCheckpoint_43 rfl rfl rfl ?_
  refine r_iconst (v := nI 0) hK d_Sh_goBackToCheckpoint_44 (by decide) ?_
  refine r_istore_n hK d_Sh_goBackToCheckpoint_45 rfl rfl rfl ?_
  exact hloop g.2.1 0 S (by omega) hM0
end Sh3
