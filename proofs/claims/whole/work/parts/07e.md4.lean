/-! the reference: kill, recover, checkpoint, early -/
def TbV (σ : Sg) (h : Nat) (mk B : Nat → Nat) (v m x n : Nat) : Int32 := if x % 3 = h ∧ (x / 3 < v ∨ (x / 3 = v ∧ n < m)) ∧ n < mk x then nI (if n < B x then 1 else 0) else σ 22 0 (512 * x + n)
def TbI (σ : Sg) (h : Nat) (mk B : Nat → Nat) (v m : Nat) (τ : Sg) : Prop := (∀ x n, x < 12 → n < 512 → τ 22 0 (512 * x + n) = TbV σ h mk B v m x n) ∧ ∀ k, k ≠ 22 → τ k = σ k
theorem TbI_m {σ τ : Sg} {h : Nat} {mk B : Nat → Nat} {v m : Nat} (hh : h < 3) (hmk : m < mk (3 * v + h)) (hm : m < 512) (q : TbI σ h mk B v m τ) : TbI σ h mk B v (m + 1) (up τ 22 0 (512 * (3 * v + h) + m) (nI (if m < B (3 * v + h) then 1 else 0))) := by
  refine ⟨fun x n hx hn => ?_, fun k hk => by rw [up_k hk]; exact q.2 k hk⟩
  rw [up_eq]
  by_cases e : x = 3 * v + h ∧ n = m
  · obtain ⟨e1, e2⟩ := e
    subst e1; subst e2
    rw [if_pos ⟨rfl, rfl, rfl⟩]
    unfold TbV
    have hp : (3 * v + h) % 3 = h ∧ ((3 * v + h) / 3 < v ∨ ((3 * v + h) / 3 = v ∧ n < n + 1)) ∧ n < mk (3 * v + h) := ⟨by omega, Or.inr ⟨by omega, by omega⟩, hmk⟩
    rw [if_pos hp]
  · rw [if_neg (fun z => e (by omega)), q.1 x n hx hn]
    unfold TbV
    by_cases c : x % 3 = h ∧ (x / 3 < v ∨ (x / 3 = v ∧ n < m)) ∧ n < mk x
    · have hp : x % 3 = h ∧ (x / 3 < v ∨ (x / 3 = v ∧ n < m + 1)) ∧ n < mk x := ⟨c.1, by omega, c.2.2⟩
      rw [if_pos c, if_pos hp]
    · rw [if_neg c, if_neg (fun z => c ⟨z.1, by omega, z.2.2⟩)]
theorem TbI_v {σ τ : Sg} {h : Nat} {mk B : Nat → Nat} {v : Nat} (q : TbI σ h mk B v (mk (3 * v + h)) τ) (hh : h < 3) : TbI σ h mk B (v + 1) 0 τ := by
  refine ⟨fun x n hx hn => ?_, q.2⟩
  rw [q.1 x n hx hn]
  unfold TbV
  by_cases c : x % 3 = h ∧ (x / 3 < v ∨ (x / 3 = v ∧ n < mk (3 * v + h))) ∧ n < mk x
  · have hp : x % 3 = h ∧ (x / 3 < v + 1 ∨ (x / 3 = v + 1 ∧ n < 0)) ∧ n < mk x := ⟨c.1, by omega, c.2.2⟩
    rw [if_pos c, if_pos hp]
  · rw [if_neg c, if_neg (fun z => c ⟨z.1, by
      by_cases e : x / 3 < v
      · exact Or.inl e
      · have e1 : x = 3 * v + h := by omega
        have := z.2.2
        rw [e1] at this
        exact Or.inr ⟨by omega, this⟩, z.2.2⟩)]
/-- the ends of a call of takeBefore -/
theorem MP_tkB {w sl ru N : Nat} {s : Sp} {σ τ : Sg} {h : Nat} {B : Nat → Nat} (hM : MP w sl ru s σ) (hA5 : ∀ x n, x < 3 * w → s.1 1 x 0 ≤ n → s.1 5 x n = 0) (hB : ∀ x, x < 3 * w → B x ≤ s.1 1 x 0) (hw : w ≤ 4) (hq : TbI σ h (fun x => s.1 1 x 0) B w 0 τ) : MP w sl ru (tkB w s.1 h B, s.2) τ := by
  obtain ⟨⟨m0, m1, m2, m3, m4⟩, m17, m18, m21, m23, m24, m26, m27⟩ := hM
  obtain ⟨q1, hk⟩ := hq
  have ht : ∀ t, t ≠ 5 → tkB w s.1 h B t = s.1 t := fun t ht => tkB_t ht
  have h5 : ∀ x n, x < 3 * w → tkB w s.1 h B 5 x n = if x % 3 = h then (if n < B x then 1 else 0) else s.1 5 x n := fun x n hx => by
    unfold tkB
    by_cases c : x % 3 = h
    · rw [if_pos ⟨rfl, c, hx⟩, if_pos c]
    · rw [if_neg (fun z => c z.2.1), if_neg c]
  generalize tkB w s.1 h B = a' at *
  refine ⟨⟨by rw [hk 16 (by decide)]; exact m0, by rw [hk 16 (by decide)]; exact m1, by rw [hk 16 (by decide)]; exact m2, by rw [hk 16 (by decide)]; show _ = nI (a' 12 0 0); rw [ht 12 (by decide)]; exact m3, by rw [hk 16 (by decide)]; exact m4⟩, ?_, ?_, ?_, ?_, ?_, ?_, by rw [hk 27 (by decide), hk 28 (by decide), hk 29 (by decide)]; exact m27⟩
  · show ∀ v', v' < w → τ 17 0 v' = nI (a' 0 v' 0)
    rw [hk 17 (by decide), ht 0 (by decide)]; exact m17
  · show ∀ l, l < 3 * w → τ 18 0 l = nI (a' 1 l 0) ∧ τ 19 0 l = nI (a' 2 l 0) ∧ τ 20 0 l = nI (a' 3 l 0)
    rw [hk 18 (by decide), hk 19 (by decide), hk 20 (by decide), ht 1 (by decide), ht 2 (by decide), ht 3 (by decide)]; exact m18
  · show ∀ l n, l < 3 * w → n < 512 → τ 21 0 (512 * l + n) = nI (a' 4 l n) ∧ τ 22 0 (512 * l + n) = nI (a' 5 l n)
    intro x n hx hn
    have hb := m21 x n hx hn
    rw [hk 21 (by decide), ht 4 (by decide)]
    refine ⟨hb.1, ?_⟩
    rw [q1 x n (by omega) hn, h5 x n hx]
    unfold TbV
    by_cases c : x % 3 = h
    · rw [if_pos c]
      by_cases e : n < s.1 1 x 0
      · rw [if_pos ⟨c, Or.inl (by omega), e⟩]
      · have := hB x hx
        rw [if_neg (fun z => e z.2.2), if_neg (by omega), hb.2, hA5 x n hx (by omega)]
    · rw [if_neg (fun z => c z.1), if_neg c, hb.2]
  · show ∀ l n, l < 3 * w → n < 32 → τ 23 0 (32 * l + n) = nI (a' 6 l n)
    rw [hk 23 (by decide), ht 6 (by decide)]; exact m23
  · show ∀ h, h < 3 → τ 24 0 h = nI (a' 7 h 0) ∧ τ 25 0 h = nI (a' 8 h 0)
    rw [hk 24 (by decide), hk 25 (by decide), ht 7 (by decide), ht 8 (by decide)]; exact m24
  · show ∀ c, c < 6 → τ 26 0 c = nI (a' 9 c 0)
    rw [hk 26 (by decide), ht 9 (by decide)]; exact m26
theorem sub1 (n : Nat) : nI n - nI 1 = nI n + (-1) := by rw [Int32.sub_eq_add_neg, show -(nI 1) = (-1 : Int32) by decide]
section Md4
variable {l : Launch} {g : Gc} {σ : Sg} {sl ru N w : Nat} {s : Sp}
theorem c_Md_boundaryG (hg : Gok g) {x c mk : Nat} {f : Nat → Nat} (hx : x < 12) (hc : c < 2 ^ 30) (hmd : σ 18 0 x = nI mk) (hmk : mk ≤ 512) (h21 : ∀ n, n < mk → σ 21 0 (512 * x + n) = nI (f n)) (hf : ∀ n, n < mk → f n < 2 ^ 30) : CI l g y_Md_boundary 0 [.ref (g.1 16 0), .int (nI x), .int (nI c)] σ (nI (bnF f c mk)) σ := by
  have hbl : bnF f c mk ≤ mk := bnF_le _ _ _
  refine ofK hg w_cd_Md_boundary (by decide) (by decide) (by first | decide | simp) (by simp [Value.category]) ?_
  intro K hK hR
  have hK : Gd l g "GradientShardsModel" b_Md_boundary 5 _ K := hK
  have hloop : ∀ d i, i + d = bnF f c mk → K 5 [.ref (g.1 16 0), .int (nI x), .int (nI c), .int (nI (en f i)), .int (nI i)] [] σ := by
    intro d
    induction d with
    | zero =>
      intro i hi
      obtain rfl : i = bnF f c mk := by omega
      have hel := en_le f (bnF f c mk)
      refine r_iload hK d_Md_boundary_5 rfl ?_
      refine r_aload_n hK d_Md_boundary_7 rfl rfl ?_
      refine r_getR hK d_Md_boundary_8 f_Md_13 rfl (in_fix rfl) rfl rfl ?_
      refine r_iload_n hK d_Md_boundary_11 rfl rfl ?_
      refine r_iald hK d_Md_boundary_12 rfl rfl (in_fix rfl) (ix_nI (j := x) (by omega)) hx hmd ?_
      refine rn_icmp_ge (tgt := 56) hK d_Md_boundary_13 (by decide) (by first | omega | (split <;> omega)) (by first | omega | (split <;> omega)) (fun q => ?_) (fun q => ?_)
      · refine r_iload hK d_Md_boundary_56 rfl ?_
        exact hR.i d_Md_boundary_58 rfl (⟨rfl, rfl⟩)
      · refine r_iload_n hK d_Md_boundary_16 rfl rfl ?_
        refine r_iload_n hK d_Md_boundary_17 rfl rfl ?_
        refine rn_icmp_ge (tgt := 56) hK d_Md_boundary_18 (by decide) (by first | omega | (split <;> omega)) (by first | omega | (split <;> omega)) (fun _ => ?_) (fun hno => absurd hno (by have e : c ≤ en f (bnF f c mk) := bnF_stop _ _ _ q; omega))
        refine r_iload hK d_Md_boundary_56 rfl ?_
        exact hR.i d_Md_boundary_58 rfl (⟨rfl, rfl⟩)
    | succ d ih =>
      intro i hi
      have hlt : en f i < c := bnF_lt _ _ _ _ (show i < bnF f c mk by omega)
      have hel := en_le f i
      have hfi := hf i (by omega)
      have ih2 := ih (i + 1) (by omega)
      have e1 : en f (i + 1) = en f i + (if f i = END then 1 else 0) := rfl
      have hE : END < 2 ^ 30 := by decide
      refine r_iload hK d_Md_boundary_5 rfl ?_
      refine r_aload_n hK d_Md_boundary_7 rfl rfl ?_
      refine r_getR hK d_Md_boundary_8 f_Md_13 rfl (in_fix rfl) rfl rfl ?_
      refine r_iload_n hK d_Md_boundary_11 rfl rfl ?_
      refine r_iald hK d_Md_boundary_12 rfl rfl (in_fix rfl) (ix_nI (j := x) (by omega)) hx hmd ?_
      refine rn_icmp_ge (tgt := 56) hK d_Md_boundary_13 (by decide) (by first | omega | (split <;> omega)) (by first | omega | (split <;> omega)) (fun hno => absurd hno (by omega)) (fun _ => ?_)
      refine r_iload_n hK d_Md_boundary_16 rfl rfl ?_
      refine r_iload_n hK d_Md_boundary_17 rfl rfl ?_
      refine rn_icmp_ge (tgt := 56) hK d_Md_boundary_18 (by decide) (by first | omega | (split <;> omega)) (by first | omega | (split <;> omega)) (fun hno => absurd hno (by omega)) (fun _ => ?_)
      refine r_aload_n hK d_Md_boundary_21 rfl rfl ?_
      refine r_getR hK d_Md_boundary_22 f_Md_22 rfl (in_fix rfl) rfl rfl ?_
      refine r_sipush (v := nI 512) hK d_Md_boundary_25 (by decide) ?_
      refine r_iload_n hK d_Md_boundary_28 rfl rfl ?_
      refine r_imul hK d_Md_boundary_29 (pk_mul _ _) ?_
      refine r_iload hK d_Md_boundary_30 rfl ?_
      refine r_iadd hK d_Md_boundary_32 (nI_add _ _) ?_
      refine r_iald hK d_Md_boundary_33 rfl rfl (in_fix rfl) (ix_nI (j := 512 * x + i) (by omega)) (by show 512 * x + i < 6144; omega) (h21 i (by omega)) ?_
      refine r_ldc (v := nI END) hK d_Md_boundary_34 w_co_Md_81 ?_
      refine rn_icmp_ne (tgt := 45) hK d_Md_boundary_36 (by decide) (by first | omega | (split <;> omega)) (by first | omega | (split <;> omega)) (fun q => ?_) (fun q => ?_)
      · rw [e1, if_neg q] at ih2
        refine r_iload_n hK d_Md_boundary_45 rfl rfl ?_
        refine r_istore_n hK d_Md_boundary_46 rfl rfl rfl ?_
        refine r_iload hK d_Md_boundary_47 rfl ?_
        refine r_iconst (v := nI 1) hK d_Md_boundary_49 (by decide) ?_
        refine r_iadd hK d_Md_boundary_50 (nI_add _ _) ?_
        refine r_istore hK d_Md_boundary_51 rfl rfl ?_
        refine r_goto (tgt := 5) hK d_Md_boundary_53 (by decide) ?_
        exact ih2
      · rw [e1, if_pos q] at ih2
        refine r_iload_n hK d_Md_boundary_39 rfl rfl ?_
        refine r_iconst (v := nI 1) hK d_Md_boundary_40 (by decide) ?_
        refine r_iadd hK d_Md_boundary_41 (nI_add _ _) ?_
        refine r_goto (tgt := 46) hK d_Md_boundary_42 (by decide) ?_
        refine r_istore_n hK d_Md_boundary_46 rfl rfl rfl ?_
        refine r_iload hK d_Md_boundary_47 rfl ?_
        refine r_iconst (v := nI 1) hK d_Md_boundary_49 (by decide) ?_
        refine r_iadd hK d_Md_boundary_50 (nI_add _ _) ?_
        refine r_istore hK d_Md_boundary_51 rfl rfl ?_
        refine r_goto (tgt := 5) hK d_Md_boundary_53 (by decide) ?_
        exact ih2
  refine r_iconst (v := nI 0) hK d_Md_boundary_0 (by decide) ?_
  refine r_istore_n hK d_Md_boundary_1 rfl rfl rfl ?_
  refine r_iconst (v := nI 0) hK d_Md_boundary_2 (by decide) ?_
  refine r_istore hK d_Md_boundary_3 rfl rfl ?_
  exact hloop (bnF f c mk) 0 (by omega)
theorem AI_f (hA : AI w N s) {x : Nat} (hx : x < 3 * w) : ∀ n, n < s.1 1 x 0 → s.1 4 x n < 2 ^ 30 := fun n hn => by
  rcases (hA.2.2.1 x hx).2.2.2.2.2.1 n hn with e | ⟨e, -, -⟩
  · rw [e]; decide
  · omega
theorem c_Md_takeBefore (hg : Gok g) (hM : MP w sl ru s σ) (hw : w ≤ 4) (hmk : ∀ x, x < 3 * w → s.1 1 x 0 ≤ 512) (hf : ∀ x n, x < 3 * w → n < s.1 1 x 0 → s.1 4 x n < 2 ^ 30) {h : Nat} {c : Int32} {B : Nat → Nat} (hh : h < 3) (hB : (c < 0 ∧ ∀ x, B x = 0) ∨ ∃ k, k < 2 ^ 30 ∧ c = nI k ∧ ∀ x, B x = bnd s.1 x k) : Ct l g y_Md_takeBefore 1 [.ref (g.1 16 0), .int (nI h), .int c] σ (fun r τ => r = none ∧ TbI σ h (fun x => s.1 1 x 0) B w 0 τ) := by
  refine ofK hg w_cd_Md_takeBefore (by decide) (by decide) (by first | decide | simp) (by simp [Value.category]) ?_
  intro K hK hR
  have hK : Gd l g "GradientShardsModel" b_Md_takeBefore 7 _ K := hK
  have hloop : ∀ d v τ, v + d = w → TbI σ h (fun x => s.1 1 x 0) B v 0 τ → K 2 [.ref (g.1 16 0), .int (nI h), .int c, .int (nI v)] [] τ := by
    intro d
    induction d with
    | zero =>
      intro v τ hv hI
      obtain rfl : v = w := by omega
      refine r_iload_n hK d_Md_takeBefore_2 rfl rfl ?_
      refine r_aload_n hK d_Md_takeBefore_3 rfl rfl ?_
      refine r_getI hK d_Md_takeBefore_4 f_Md_50 rfl (in_fix rfl) rfl rfl (v := nI v) (by rw [hI.2 16 (by decide)]; exact hM.1.1) ?_
      refine rn_icmp_ge (tgt := 87) hK d_Md_takeBefore_7 (by decide) (by first | omega | (split <;> omega)) (by first | omega | (split <;> omega)) (fun _ => ?_) (fun hno => absurd hno (by omega))
      exact hR.v d_Md_takeBefore_87 (⟨rfl, hI⟩)
    | succ d ih =>
      intro v τ hv hI
      have hx : 3 * v + h < 3 * w := by omega
      have hm1 := hmk (3 * v + h) hx
      have hmd := (hM.2.2.1 (3 * v + h) hx).1
      have hBl : B (3 * v + h) ≤ s.1 1 (3 * v + h) 0 := by
        rcases hB with ⟨-, e⟩ | ⟨k, -, -, e⟩
        · rw [e]; omega
        · rw [e]; exact bnF_le _ _ _
      have hin : ∀ d m τ, m + d = s.1 1 (3 * v + h) 0 → TbI σ h (fun x => s.1 1 x 0) B v m τ → K 37 [.ref (g.1 16 0), .int (nI h), .int c, .int (nI v), .int (nI (3 * v + h)), .int (nI (B (3 * v + h))), .int (nI m)] [] τ := by
        intro d
        induction d with
        | zero =>
          intro m τ hm hI2
          obtain rfl : m = s.1 1 (3 * v + h) 0 := by omega
          refine r_iload hK d_Md_takeBefore_37 rfl ?_
          refine r_aload_n hK d_Md_takeBefore_39 rfl rfl ?_
          refine r_getR hK d_Md_takeBefore_40 f_Md_13 rfl (in_fix rfl) rfl rfl ?_
          refine r_iload hK d_Md_takeBefore_43 rfl ?_
          refine r_iald hK d_Md_takeBefore_45 rfl rfl (in_fix rfl) (ix_nI (j := 3 * v + h) (by omega)) (by show 3 * v + h < 12; omega) (v := nI (s.1 1 (3 * v + h) 0)) (by rw [hI2.2 18 (by decide)]; exact hmd) ?_
          refine rn_icmp_ge (tgt := 81) hK d_Md_takeBefore_46 (by decide) (by first | omega | (split <;> omega)) (by first | omega | (split <;> omega)) (fun _ => ?_) (fun hno => absurd hno (by omega))
          refine r_iinc hK d_Md_takeBefore_81 rfl (nI_1 _) rfl ?_
          refine r_goto (tgt := 2) hK d_Md_takeBefore_84 (by decide) ?_
          exact r_drop 4 hK (ih (v + 1) _ (by omega) (TbI_v hI2 hh))
        | succ d ihi =>
          intro m τ hm hI2
          have hI3 := TbI_m (m := m) hh (show m < s.1 1 (3 * v + h) 0 by omega) (by omega) hI2
          refine r_iload hK d_Md_takeBefore_37 rfl ?_
          refine r_aload_n hK d_Md_takeBefore_39 rfl rfl ?_
          refine r_getR hK d_Md_takeBefore_40 f_Md_13 rfl (in_fix rfl) rfl rfl ?_
          refine r_iload hK d_Md_takeBefore_43 rfl ?_
          refine r_iald hK d_Md_takeBefore_45 rfl rfl (in_fix rfl) (ix_nI (j := 3 * v + h) (by omega)) (by show 3 * v + h < 12; omega) (v := nI (s.1 1 (3 * v + h) 0)) (by rw [hI2.2 18 (by decide)]; exact hmd) ?_
          refine rn_icmp_ge (tgt := 81) hK d_Md_takeBefore_46 (by decide) (by first | omega | (split <;> omega)) (by first | omega | (split <;> omega)) (fun hno => absurd hno (by omega)) (fun _ => ?_)
          refine r_aload_n hK d_Md_takeBefore_49 rfl rfl ?_
          refine r_getR hK d_Md_takeBefore_50 f_Md_25 rfl (in_fix rfl) rfl rfl ?_
          refine r_sipush (v := nI 512) hK d_Md_takeBefore_53 (by decide) ?_
          refine r_iload hK d_Md_takeBefore_56 rfl ?_
          refine r_imul hK d_Md_takeBefore_58 (pk_mul _ _) ?_
          refine r_iload hK d_Md_takeBefore_59 rfl ?_
          refine r_iadd hK d_Md_takeBefore_61 (nI_add _ _) ?_
          refine r_iload hK d_Md_takeBefore_62 rfl ?_
          refine r_iload hK d_Md_takeBefore_64 rfl ?_
          refine rn_icmp_ge (tgt := 73) hK d_Md_takeBefore_66 (by decide) (by first | omega | (split <;> omega)) (by first | omega | (split <;> omega)) (fun q => ?_) (fun q => ?_)
          · rw [if_neg (by omega)] at hI3
            refine r_iconst (v := nI 0) hK d_Md_takeBefore_73 (by decide) ?_
            refine r_zast hK d_Md_takeBefore_74 rfl rfl (in_fix rfl) (ix_nI (j := 512 * (3 * v + h) + m) (by omega)) (by show 512 * (3 * v + h) + m < 6144; omega) rfl ?_
            refine r_iinc hK d_Md_takeBefore_75 rfl (nI_1 _) rfl ?_
            refine r_goto (tgt := 37) hK d_Md_takeBefore_78 (by decide) ?_
            exact ihi (m + 1) _ (by omega) hI3
          · rw [if_pos q] at hI3
            refine r_iconst (v := nI 1) hK d_Md_takeBefore_69 (by decide) ?_
            refine r_goto (tgt := 74) hK d_Md_takeBefore_70 (by decide) ?_
            refine r_zast hK d_Md_takeBefore_74 rfl rfl (in_fix rfl) (ix_nI (j := 512 * (3 * v + h) + m) (by omega)) (by show 512 * (3 * v + h) + m < 6144; omega) rfl ?_
            refine r_iinc hK d_Md_takeBefore_75 rfl (nI_1 _) rfl ?_
            refine r_goto (tgt := 37) hK d_Md_takeBefore_78 (by decide) ?_
            exact ihi (m + 1) _ (by omega) hI3
      have h0 := hin (s.1 1 (3 * v + h) 0) 0 τ (by omega) hI
      rcases hB with ⟨hc, e⟩ | ⟨k, hk, hck, e⟩
      · rw [e] at h0
        refine r_iload_n hK d_Md_takeBefore_2 rfl rfl ?_
        refine r_aload_n hK d_Md_takeBefore_3 rfl rfl ?_
        refine r_getI hK d_Md_takeBefore_4 f_Md_50 rfl (in_fix rfl) rfl rfl (v := nI w) (by rw [hI.2 16 (by decide)]; exact hM.1.1) ?_
        refine rn_icmp_ge (tgt := 87) hK d_Md_takeBefore_7 (by decide) (by first | omega | (split <;> omega)) (by first | omega | (split <;> omega)) (fun hno => absurd hno (by omega)) (fun _ => ?_)
        refine r_iconst (v := nI 3) hK d_Md_takeBefore_10 (by decide) ?_
        refine r_iload_n hK d_Md_takeBefore_11 rfl rfl ?_
        refine r_imul hK d_Md_takeBefore_12 (pk_mul _ _) ?_
        refine r_iload_n hK d_Md_takeBefore_13 rfl rfl ?_
        refine r_iadd hK d_Md_takeBefore_14 (nI_add _ _) ?_
        refine r_istore hK d_Md_takeBefore_15 rfl rfl ?_
        refine r_iload_n hK d_Md_takeBefore_17 rfl rfl ?_
        refine r_if_ge (tgt := 25) hK d_Md_takeBefore_18 (by decide) (fun hno => absurd hno (Int32.not_le.mpr hc)) (fun _ => ?_)
        refine r_iconst (v := nI 0) hK d_Md_takeBefore_21 (by decide) ?_
        refine r_goto (tgt := 32) hK d_Md_takeBefore_22 (by decide) ?_
        refine r_istore hK d_Md_takeBefore_32 rfl rfl ?_
        refine r_iconst (v := nI 0) hK d_Md_takeBefore_34 (by decide) ?_
        refine r_istore hK d_Md_takeBefore_35 rfl rfl ?_
        exact h0
      · rw [e] at h0
        subst hck
        refine r_iload_n hK d_Md_takeBefore_2 rfl rfl ?_
        refine r_aload_n hK d_Md_takeBefore_3 rfl rfl ?_
        refine r_getI hK d_Md_takeBefore_4 f_Md_50 rfl (in_fix rfl) rfl rfl (v := nI w) (by rw [hI.2 16 (by decide)]; exact hM.1.1) ?_
        refine rn_icmp_ge (tgt := 87) hK d_Md_takeBefore_7 (by decide) (by first | omega | (split <;> omega)) (by first | omega | (split <;> omega)) (fun hno => absurd hno (by omega)) (fun _ => ?_)
        refine r_iconst (v := nI 3) hK d_Md_takeBefore_10 (by decide) ?_
        refine r_iload_n hK d_Md_takeBefore_11 rfl rfl ?_
        refine r_imul hK d_Md_takeBefore_12 (pk_mul _ _) ?_
        refine r_iload_n hK d_Md_takeBefore_13 rfl rfl ?_
        refine r_iadd hK d_Md_takeBefore_14 (nI_add _ _) ?_
        refine r_istore hK d_Md_takeBefore_15 rfl rfl ?_
        refine r_iload_n hK d_Md_takeBefore_17 rfl rfl ?_
        refine r_if_ge (tgt := 25) hK d_Md_takeBefore_18 (by decide) (fun _ => ?_) (fun hno => absurd (nI_pos' (by omega)) hno)
        refine r_aload_n hK d_Md_takeBefore_25 rfl rfl ?_
        refine r_iload hK d_Md_takeBefore_26 rfl ?_
        refine r_iload_n hK d_Md_takeBefore_28 rfl rfl ?_
        refine r_callVI hK d_Md_takeBefore_29 m_Md_86 rfl (in_fix rfl) (c_Md_boundaryG hg (f := s.1 4 (3 * v + h)) (by omega) hk (by rw [hI.2 18 (by decide)]; exact hmd) hm1 (fun n hn => by rw [hI.2 21 (by decide)]; exact (hM.2.2.2.1 (3 * v + h) n hx (by omega)).1) (fun n hn => hf _ n hx hn)) (by decide) rfl rfl rfl ?_
        refine r_istore hK d_Md_takeBefore_32 rfl rfl ?_
        refine r_iconst (v := nI 0) hK d_Md_takeBefore_34 (by decide) ?_
        refine r_istore hK d_Md_takeBefore_35 rfl rfl ?_
        exact h0
  refine r_iconst (v := nI 0) hK d_Md_takeBefore_0 (by decide) ?_
  refine r_istore_n hK d_Md_takeBefore_1 rfl rfl rfl ?_
  exact hloop w 0 σ (by omega) ⟨fun x n hx hn => by unfold TbV; rw [if_neg (fun z => by omega)], fun _ _ => rfl⟩
theorem flt_step {pk : List Nat} {h i c : Nat} (hc : pk[i]? = some c) : (pk.take (i + 1) ++ (pk.drop (i + 1)).filter (nth h)) = pk.take i ++ c :: (pk.drop (i + 1)).filter (nth h) ∧ pk.take i ++ (pk.drop i).filter (nth h) = (if nth h c = true then pk.take i ++ c :: (pk.drop (i + 1)).filter (nth h) else pk.take i ++ (pk.drop (i + 1)).filter (nth h)) := by
  have hlt : i < pk.length := (List.getElem?_eq_some_iff.mp hc).1
  have hd : pk.drop i = c :: pk.drop (i + 1) := by
    rw [List.drop_eq_getElem_cons hlt]
    congr 1
    exact Option.some.inj ((List.getElem?_eq_getElem hlt).symm.trans hc)
  refine ⟨by rw [take_succ hc, List.append_assoc]; rfl, ?_⟩
  rw [hd, List.filter_cons]
  split <;> rfl
theorem c_Md_kill (hg : Gok g) (hM : MP w sl ru s σ) (hA : AI w N s) (i : Int32) : Ct l g y_Md_kill 2 [.ref (g.1 16 0), .int i] σ (PM w sl ru (kllR w s i) σ) := by
  have hw := hA.1.2.1
  have hN := hA.1.2.2.1
  have hlen := hA.1.2.2.2.1
  rcases bad_or 3 (by decide) i with hb | ⟨h, hh, rfl⟩
  · have hres : kllR w s i = (s, nI 0) := if_pos (Or.inl hb)
    rw [hres]
    refine ofK hg w_cd_Md_kill (by decide) (by decide) (by first | decide | simp) (by simp [Value.category]) ?_
    intro K hK hR
    have hK : Gd l g "GradientShardsModel" b_Md_kill 3 _ K := hK
    refine r_iload_n hK d_Md_kill_0 rfl rfl ?_
    refine r_callSI hK d_Md_kill_1 m_Md_127 (c_Md_isShard_f hg hb) (by decide) rfl rfl rfl ?_
    refine rn_if_eq (tgt := 16) hK d_Md_kill_4 (by decide) (by first | omega | (split <;> omega)) (fun _ => ?_) (fun hno => absurd hno (by omega))
    refine r_iconst (v := nI 0) hK d_Md_kill_16 (by decide) ?_
    exact hR.i d_Md_kill_17 rfl (⟨rfl, hM, fun _ _ => rfl⟩)
  · have s24 := (hM.2.2.2.2.2.1 h hh).1
    have hd1 := (hA.2.2.2.1 h hh).1
    by_cases h7 : s.1 7 h 0 = 1
    · have hres : kllR w s (nI h) = (s, nI 0) := if_pos (Or.inr (by rw [nI_clamp (by omega)]; exact h7))
      rw [hres]
      refine ofK hg w_cd_Md_kill (by decide) (by decide) (by first | decide | simp) (by simp [Value.category]) ?_
      intro K hK hR
      have hK : Gd l g "GradientShardsModel" b_Md_kill 3 _ K := hK
      refine r_iload_n hK d_Md_kill_0 rfl rfl ?_
      refine r_callSI hK d_Md_kill_1 m_Md_127 (c_Md_isShard_t hg hh) (by decide) rfl rfl rfl ?_
      refine rn_if_eq (tgt := 16) hK d_Md_kill_4 (by decide) (by first | omega | (split <;> omega)) (fun hno => absurd hno (by omega)) (fun _ => ?_)
      refine r_aload_n hK d_Md_kill_7 rfl rfl ?_
      refine r_getR hK d_Md_kill_8 f_Md_32 rfl (in_fix rfl) rfl rfl ?_
      refine r_iload_n hK d_Md_kill_11 rfl rfl ?_
      refine r_zald hK d_Md_kill_12 rfl rfl (in_fix rfl) (ix_nI (j := h) (by omega)) hh s24 ?_
      refine rn_if_eq (tgt := 18) hK d_Md_kill_13 (by decide) (by first | omega | (split <;> omega)) (fun hno => absurd hno (by omega)) (fun _ => ?_)
      refine r_iconst (v := nI 0) hK d_Md_kill_16 (by decide) ?_
      exact hR.i d_Md_kill_17 rfl (⟨rfl, hM, fun _ _ => rfl⟩)
    · have hres : kllR w s (nI h) = (kll w s h, nI 1) := by unfold kllR; rw [nI_clamp (by omega), if_neg (fun q => q.elim (ok_nI hh (by decide)) h7)]
      rw [hres]
      have hM1 := MP_7 (i := h) (v := 1) hM
      have t1 : ua s.1 7 h 0 1 1 = s.1 1 := ua_t (by decide)
      have t4 : ua s.1 7 h 0 1 4 = s.1 4 := ua_t (by decide)
      have t5 : ua s.1 7 h 0 1 5 = s.1 5 := ua_t (by decide)
      have htb := c_Md_takeBefore (l := l) (s := (ua s.1 7 h 0 1, s.2)) (B := fun _ => 0) (c := -1) hg hM1 hw (fun x hx => by show ua s.1 7 h 0 1 1 x 0 ≤ _; rw [t1]; have := (hA.2.2.1 x hx).2.2.1; omega) (fun x n hx hn => by show ua s.1 7 h 0 1 4 x n < _; rw [t4]; exact AI_f hA hx n (by have hn : n < ua s.1 7 h 0 1 1 x 0 := hn; rw [t1] at hn; exact hn)) hh (Or.inl ⟨by decide, fun _ => rfl⟩)
      have hpc : ∀ j c, s.2[j]? = some c → lkc c % 3 = c / 8 % 4 ∧ lkc c < 12 := fun j c hc => by
        obtain ⟨c1, c2, -, -⟩ := hA.2.2.2.2 c (List.mem_of_getElem? hc)
        obtain ⟨e1, e2, e3⟩ := lkc_lt c1 c2
        exact ⟨e2, by omega⟩
      refine ofK hg w_cd_Md_kill (by decide) (by decide) (by first | decide | simp) (by simp [Value.category]) ?_
      intro K hK hR
      have hK : Gd l g "GradientShardsModel" b_Md_kill 3 _ K := hK
      have hloop : ∀ j τ v, j ≤ s.2.length → v = nI j + (-1) → MP w sl ru (tkB w (ua s.1 7 h 0 1) h (fun _ => 0), s.2.take j ++ (s.2.drop j).filter (nth h)) τ → (∀ k, k < 16 → τ k = σ k) → K 38 [.ref (g.1 16 0), .int (nI h), .int v] [] τ := by
        intro j
        induction j with
        | zero =>
          intro τ v hj hv hMt hF
          have hv : v = -1 := by rw [hv]; decide
          subst hv
          refine r_iload_n hK d_Md_kill_38 rfl rfl ?_
          refine r_if_lt (tgt := 65) hK d_Md_kill_39 (by decide) (fun _ => ?_) (fun hno => absurd (by decide) hno)
          refine r_iconst (v := nI 1) hK d_Md_kill_65 (by decide) ?_
          exact hR.i d_Md_kill_66 rfl (⟨rfl, hMt, hF⟩)
        | succ j ih =>
          intro τ v hj hv hMt hF
          rw [pk_m1] at hv
          subst hv
          obtain ⟨c, hc⟩ : ∃ c, s.2[j]? = some c := ⟨_, List.getElem?_eq_getElem (by omega)⟩
          obtain ⟨f1, f2⟩ := flt_step (h := h) hc
          obtain ⟨p1, p2⟩ := hpc j c hc
          have hlt : (s.2.take j).length = j := by rw [List.length_take]; omega
          rw [f1] at hMt
          have hget : (s.2.take j ++ c :: (s.2.drop (j + 1)).filter (nth h))[j]? = some c := by
            rw [List.getElem?_append_right (by omega), hlt, Nat.sub_self]
            rfl
          have hv28 : τ 28 0 j = nI (lkc c) := (hMt.2.2.2.2.2.2.2 j c hget).2.1
          have hle : (s.2.take j ++ c :: (s.2.drop (j + 1)).filter (nth h)).length ≤ 24 := by
            rw [← f1, List.length_append, List.length_take]
            have := List.length_filter_le (nth h) (s.2.drop (j + 1))
            rw [List.length_drop] at this
            omega
          have hjl : j < (s.2.take j ++ c :: (s.2.drop (j + 1)).filter (nth h)).length := (List.getElem?_eq_some_iff.mp hget).1
          by_cases hq : c / 8 % 4 = h
          · have hn : nth h c = false := by unfold nth; simp [hq]
            rw [hn] at f2
            have hMr := MP_rm hMt hjl
            have he : (s.2.take j ++ c :: (s.2.drop (j + 1)).filter (nth h)).eraseIdx j = s.2.take j ++ (s.2.drop j).filter (nth h) := by
              rw [f2, List.eraseIdx_append_of_length_le (by omega), hlt, Nat.sub_self]
              rfl
            have hMr : MP w sl ru (tkB w (ua s.1 7 h 0 1) h (fun _ => 0), s.2.take j ++ (s.2.drop j).filter (nth h)) (rmM τ (s.2.take j ++ c :: (s.2.drop (j + 1)).filter (nth h)).length j) := by rw [← he]; exact hMr
            refine r_iload_n hK d_Md_kill_38 rfl rfl ?_
            refine r_if_lt (tgt := 65) hK d_Md_kill_39 (by decide) (fun hno => absurd hno (nI_pos (by omega))) (fun _ => ?_)
            refine r_aload_n hK d_Md_kill_42 rfl rfl ?_
            refine r_getR hK d_Md_kill_43 f_Md_44 rfl (in_fix rfl) rfl rfl ?_
            refine r_iload_n hK d_Md_kill_46 rfl rfl ?_
            refine r_iald hK d_Md_kill_47 rfl rfl (in_fix rfl) (ix_nI (j := j) (by omega)) (by show j < 24; omega) hv28 ?_
            refine r_iconst (v := nI 3) hK d_Md_kill_48 (by decide) ?_
            refine r_irem hK d_Md_kill_49 (v := nI h) (by decide) (by rw [pk_rem (by omega) (by decide) (by decide), p1, hq]) ?_
            refine r_iload_n hK d_Md_kill_50 rfl rfl ?_
            refine rn_icmp_ne (tgt := 59) hK d_Md_kill_51 (by decide) (by first | omega | (split <;> omega)) (by first | omega | (split <;> omega)) (fun hno => absurd hno (by omega)) (fun _ => ?_)
            refine r_aload_n hK d_Md_kill_54 rfl rfl ?_
            refine r_iload_n hK d_Md_kill_55 rfl rfl ?_
            refine r_callVV hK d_Md_kill_56 m_Md_116 rfl (in_fix rfl) (c_Md_remove hg hMt.1.2.2.2.2 hle hjl (MP_b hMt)) (by decide) rfl rfl rfl ?_
            refine r_iinc hK d_Md_kill_59 rfl rfl rfl ?_
            refine r_goto (tgt := 38) hK d_Md_kill_62 (by decide) ?_
            exact ih _ _ (by omega) rfl hMr (fun k hk => by rw [rmM_k hk]; exact hF k hk)
          · have hn : nth h c = true := by unfold nth; simp [hq]
            rw [hn] at f2
            have f2 : s.2.take j ++ (s.2.drop j).filter (nth h) = s.2.take j ++ c :: (s.2.drop (j + 1)).filter (nth h) := f2
            rw [← f2] at hMt
            refine r_iload_n hK d_Md_kill_38 rfl rfl ?_
            refine r_if_lt (tgt := 65) hK d_Md_kill_39 (by decide) (fun hno => absurd hno (nI_pos (by omega))) (fun _ => ?_)
            refine r_aload_n hK d_Md_kill_42 rfl rfl ?_
            refine r_getR hK d_Md_kill_43 f_Md_44 rfl (in_fix rfl) rfl rfl ?_
            refine r_iload_n hK d_Md_kill_46 rfl rfl ?_
            refine r_iald hK d_Md_kill_47 rfl rfl (in_fix rfl) (ix_nI (j := j) (by omega)) (by show j < 24; omega) hv28 ?_
            refine r_iconst (v := nI 3) hK d_Md_kill_48 (by decide) ?_
            refine r_irem hK d_Md_kill_49 (v := nI (c / 8 % 4)) (by decide) (by rw [pk_rem (by omega) (by decide) (by decide), p1]) ?_
            refine r_iload_n hK d_Md_kill_50 rfl rfl ?_
            refine rn_icmp_ne (tgt := 59) hK d_Md_kill_51 (by decide) (by first | omega | (split <;> omega)) (by first | omega | (split <;> omega)) (fun _ => ?_) (fun hno => absurd hno (by omega))
            refine r_iinc hK d_Md_kill_59 rfl rfl rfl ?_
            refine r_goto (tgt := 38) hK d_Md_kill_62 (by decide) ?_
            exact ih _ _ (by omega) rfl hMt hF
      refine r_iload_n hK d_Md_kill_0 rfl rfl ?_
      refine r_callSI hK d_Md_kill_1 m_Md_127 (c_Md_isShard_t hg hh) (by decide) rfl rfl rfl ?_
      refine rn_if_eq (tgt := 16) hK d_Md_kill_4 (by decide) (by first | omega | (split <;> omega)) (fun hno => absurd hno (by omega)) (fun _ => ?_)
      refine r_aload_n hK d_Md_kill_7 rfl rfl ?_
      refine r_getR hK d_Md_kill_8 f_Md_32 rfl (in_fix rfl) rfl rfl ?_
      refine r_iload_n hK d_Md_kill_11 rfl rfl ?_
      refine r_zald hK d_Md_kill_12 rfl rfl (in_fix rfl) (ix_nI (j := h) (by omega)) hh s24 ?_
      refine rn_if_eq (tgt := 18) hK d_Md_kill_13 (by decide) (by first | omega | (split <;> omega)) (fun _ => ?_) (fun hno => absurd hno (by omega))
      refine r_aload_n hK d_Md_kill_18 rfl rfl ?_
      refine r_getR hK d_Md_kill_19 f_Md_32 rfl (in_fix rfl) rfl rfl ?_
      refine r_iload_n hK d_Md_kill_22 rfl rfl ?_
      refine r_iconst (v := nI 1) hK d_Md_kill_23 (by decide) ?_
      refine r_zast hK d_Md_kill_24 rfl rfl (in_fix rfl) (ix_nI (j := h) (by omega)) hh rfl ?_
      refine r_aload_n hK d_Md_kill_25 rfl rfl ?_
      refine r_iload_n hK d_Md_kill_26 rfl rfl ?_
      refine r_iconst (v := -1) hK d_Md_kill_27 (by decide) ?_
      refine r_callVP hK d_Md_kill_28 m_Md_130 rfl (in_fix rfl) (htb) (by decide) rfl rfl rfl (fun r9 τ9 hP9 => ?_)
      obtain ⟨rfl, hTb⟩ := hP9
      have hMf : MP w sl ru (tkB w (ua s.1 7 h 0 1) h (fun _ => 0), s.2) τ9 := MP_tkB (N := N) (s := (ua s.1 7 h 0 1, s.2)) hM1 (fun x n hx hn => by show ua s.1 7 h 0 1 5 x n = 0; rw [t5]; have hn : ua s.1 7 h 0 1 1 x 0 ≤ n := hn; rw [t1] at hn; exact (hA.2.2.1 x hx).2.2.2.2.2.2.2.1 n hn) (fun _ _ => Nat.zero_le _) hw hTb
      refine r_aload_n hK d_Md_kill_31 rfl rfl ?_
      refine r_getI hK d_Md_kill_32 f_Md_60 rfl (in_fix rfl) rfl rfl hMf.1.2.2.2.2 ?_
      refine r_iconst (v := nI 1) hK d_Md_kill_35 (by decide) ?_
      refine r_isub hK d_Md_kill_36 (sub1 _) ?_
      refine r_istore_n hK d_Md_kill_37 rfl rfl rfl ?_
      exact hloop s.2.length _ _ (Nat.le_refl _) rfl (by rw [List.take_length, List.drop_length, List.filter_nil, List.append_nil]; exact hMf) (fun k hk => by rw [hTb.2 k (by omega), up_k (by omega)])
theorem c_Md_recover (hg : Gok g) (hM : MP w sl ru s σ) (hA : AI w N s) (i : Int32) : Ct l g y_Md_recover 2 [.ref (g.1 16 0), .int i] σ (PM w sl ru (rcvR w s i) σ) := by
  have hw := hA.1.2.1
  have hN := hA.1.2.2.1
  rcases bad_or 3 (by decide) i with hb | ⟨h, hh, rfl⟩
  · have hres : rcvR w s i = (s, nI 0) := if_pos (Or.inl hb)
    rw [hres]
    refine ofK hg w_cd_Md_recover (by decide) (by decide) (by first | decide | simp) (by simp [Value.category]) ?_
    intro K hK hR
    have hK : Gd l g "GradientShardsModel" b_Md_recover 3 _ K := hK
    refine r_iload_n hK d_Md_recover_0 rfl rfl ?_
    refine r_callSI hK d_Md_recover_1 m_Md_127 (c_Md_isShard_f hg hb) (by decide) rfl rfl rfl ?_
    refine rn_if_eq (tgt := 16) hK d_Md_recover_4 (by decide) (by first | omega | (split <;> omega)) (fun _ => ?_) (fun hno => absurd hno (by omega))
    refine r_iconst (v := nI 0) hK d_Md_recover_16 (by decide) ?_
    exact hR.i d_Md_recover_17 rfl (⟨rfl, hM, fun _ _ => rfl⟩)
  · have s24 := (hM.2.2.2.2.2.1 h hh).1
    have s25 := (hM.2.2.2.2.2.1 h hh).2
    have hd1 := (hA.2.2.2.1 h hh).1
    by_cases h7 : s.1 7 h 0 = 0
    · have hres : rcvR w s (nI h) = (s, nI 0) := if_pos (Or.inr (by rw [nI_clamp (by omega)]; exact h7))
      rw [hres]
      refine ofK hg w_cd_Md_recover (by decide) (by decide) (by first | decide | simp) (by simp [Value.category]) ?_
      intro K hK hR
      have hK : Gd l g "GradientShardsModel" b_Md_recover 3 _ K := hK
      refine r_iload_n hK d_Md_recover_0 rfl rfl ?_
      refine r_callSI hK d_Md_recover_1 m_Md_127 (c_Md_isShard_t hg hh) (by decide) rfl rfl rfl ?_
      refine rn_if_eq (tgt := 16) hK d_Md_recover_4 (by decide) (by first | omega | (split <;> omega)) (fun hno => absurd hno (by omega)) (fun _ => ?_)
      refine r_aload_n hK d_Md_recover_7 rfl rfl ?_
      refine r_getR hK d_Md_recover_8 f_Md_32 rfl (in_fix rfl) rfl rfl ?_
      refine r_iload_n hK d_Md_recover_11 rfl rfl ?_
      refine r_zald hK d_Md_recover_12 rfl rfl (in_fix rfl) (ix_nI (j := h) (by omega)) hh s24 ?_
      refine rn_if_ne (tgt := 18) hK d_Md_recover_13 (by decide) (by first | omega | (split <;> omega)) (fun hno => absurd hno (by omega)) (fun _ => ?_)
      refine r_iconst (v := nI 0) hK d_Md_recover_16 (by decide) ?_
      exact hR.i d_Md_recover_17 rfl (⟨rfl, hM, fun _ _ => rfl⟩)
    · have hres : rcvR w s (nI h) = (rcv w s h, nI 1) := by unfold rcvR; rw [nI_clamp (by omega), if_neg (fun q => q.elim (ok_nI hh (by decide)) h7)]
      rw [hres]
      have hM1 := MP_7 (i := h) (v := 0) hM
      have t1 : ua s.1 7 h 0 0 1 = s.1 1 := ua_t (by decide)
      have t4 : ua s.1 7 h 0 0 4 = s.1 4 := ua_t (by decide)
      have t5 : ua s.1 7 h 0 0 5 = s.1 5 := ua_t (by decide)
      have hmk : ∀ x, x < 3 * w → s.1 1 x 0 ≤ 512 := fun x hx => by have := (hA.2.2.1 x hx).2.2.1; omega
      have hckb : s.1 8 h 0 < 2 ^ 30 := by
        have h1 := AI_ck hA hh (v := 0) (by have := hA.1.1; omega)
        have h2 := en_le (s.1 4 (3 * 0 + h)) (s.1 1 (3 * 0 + h) 0)
        have h3 := hmk (3 * 0 + h) (by have := hA.1.1; omega)
        omega
      have hbe : ∀ x, bnd (ua s.1 7 h 0 0) x (s.1 8 h 0) = bnd s.1 x (s.1 8 h 0) := fun x => bnd_to (by rw [t1]) (by rw [t4])
      have htb := c_Md_takeBefore (l := l) (s := (ua s.1 7 h 0 0, s.2)) (B := fun x => bnd s.1 x (s.1 8 h 0)) (c := nI (s.1 8 h 0)) hg hM1 hw (fun x hx => by show ua s.1 7 h 0 0 1 x 0 ≤ _; rw [t1]; exact hmk x hx) (fun x n hx hn => by show ua s.1 7 h 0 0 4 x n < _; rw [t4]; exact AI_f hA hx n (by have hn : n < ua s.1 7 h 0 0 1 x 0 := hn; rw [t1] at hn; exact hn)) hh (Or.inr ⟨s.1 8 h 0, hckb, rfl, fun x => (hbe x).symm⟩)
      generalize hA0 : tkB w (ua s.1 7 h 0 0) h (fun x => bnd s.1 x (s.1 8 h 0)) = a0
      have z1 : a0 1 = s.1 1 := by rw [← hA0, tkB_t (by decide), t1]
      have z4 : a0 4 = s.1 4 := by rw [← hA0, tkB_t (by decide), t4]
      have z8 : a0 8 h 0 = s.1 8 h 0 := by rw [← hA0, tkB_t (by decide), ua_t (by decide)]
      have z9 : a0 9 = s.1 9 := by rw [← hA0, tkB_t (by decide), ua_t (by decide)]
      have hsur : ∀ v, v < w → (fun t i j => if t = 3 ∧ i % 3 = h ∧ i < 3 * (v + 1) ∧ j = 0 then bnd s.1 i (s.1 8 h 0) else a0 t i j : Ab) = ua (fun t i j => if t = 3 ∧ i % 3 = h ∧ i < 3 * v ∧ j = 0 then bnd s.1 i (s.1 8 h 0) else a0 t i j) 3 (3 * v + h) 0 (bnd s.1 (3 * v + h) (s.1 8 h 0)) := fun v hv => by
        funext t i j
        unfold ua
        by_cases q : t = 3 ∧ i = 3 * v + h ∧ j = 0
        · rw [if_pos q, if_pos ⟨q.1, by omega, by omega, q.2.2⟩, q.2.1]
        · rw [if_neg q]
          show _ = (if t = 3 ∧ i % 3 = h ∧ i < 3 * v ∧ j = 0 then bnd s.1 i (s.1 8 h 0) else a0 t i j)
          by_cases q2 : t = 3 ∧ i % 3 = h ∧ i < 3 * v ∧ j = 0
          · rw [if_pos q2, if_pos ⟨q2.1, q2.2.1, by omega, q2.2.2.2⟩]
          · rw [if_neg q2, if_neg (fun z => q2 ⟨z.1, z.2.1, by omega, z.2.2.2⟩)]
      have hlast : (ua (fun t i j => if t = 3 ∧ i % 3 = h ∧ i < 3 * w ∧ j = 0 then bnd s.1 i (s.1 8 h 0) else a0 t i j) 9 5 0 (s.1 9 5 0 + 1), s.2) = rcv w s h := by
        unfold rcv
        congr 1
        funext t i j
        by_cases q : t = 9 ∧ i = 5 ∧ j = 0
        · obtain ⟨q1, q2, q3⟩ := q
          subst q1; subst q2; subst q3
          rw [ua_at, if_neg (fun z => absurd z.1 (by decide)), tkB_t (by decide), ua_at]
        · rw [ua_ne q]
          by_cases q2 : t = 3 ∧ i % 3 = h ∧ i < 3 * w ∧ j = 0
          · rw [if_pos q2, if_pos q2]
          · rw [if_neg q2, if_neg q2, ← hA0]
            unfold tkB
            rw [ua_ne (a := ua s.1 7 h 0 0) q]
      refine ofK hg w_cd_Md_recover (by decide) (by decide) (by first | decide | simp) (by simp [Value.category]) ?_
      intro K hK hR
      have hK : Gd l g "GradientShardsModel" b_Md_recover 3 _ K := hK
      have hloop : ∀ d v τ, v + d = w → MP w sl ru (fun t i j => if t = 3 ∧ i % 3 = h ∧ i < 3 * v ∧ j = 0 then bnd s.1 i (s.1 8 h 0) else a0 t i j, s.2) τ → (∀ k, k < 16 → τ k = σ k) → K 38 [.ref (g.1 16 0), .int (nI h), .int (nI v)] [] τ := by
        intro d
        induction d with
        | zero =>
          intro v τ hv hMt hF
          obtain rfl : v = w := by omega
          have r26 : τ 26 0 5 = nI (s.1 9 5 0) := by
            have := hMt.2.2.2.2.2.2.1 5 (by decide)
            have e : (fun t i j => if t = 3 ∧ i % 3 = h ∧ i < 3 * v ∧ j = 0 then bnd s.1 i (s.1 8 h 0) else a0 t i j : Ab) 9 5 0 = s.1 9 5 0 := by
              show (if 9 = 3 ∧ 5 % 3 = h ∧ 5 < 3 * v ∧ 0 = 0 then bnd s.1 5 (s.1 8 h 0) else a0 9 5 0) = _
              rw [if_neg (fun z => absurd z.1 (by decide)), z9]
            exact this.trans (congrArg nI e)
          have hMe := MP_9 (i := 5) (v := s.1 9 5 0 + 1) hMt
          have hMe : MP v sl ru (rcv v s h) (up τ 26 0 5 (nI (s.1 9 5 0 + 1))) := by rw [← hlast]; exact hMe
          refine r_iload_n hK d_Md_recover_38 rfl rfl ?_
          refine r_aload_n hK d_Md_recover_39 rfl rfl ?_
          refine r_getI hK d_Md_recover_40 f_Md_50 rfl (in_fix rfl) rfl rfl hMt.1.1 ?_
          refine rn_icmp_ge (tgt := 77) hK d_Md_recover_43 (by decide) (by first | omega | (split <;> omega)) (by first | omega | (split <;> omega)) (fun _ => ?_) (fun hno => absurd hno (by omega))
          refine r_aload_n hK d_Md_recover_77 rfl rfl ?_
          refine r_getR hK d_Md_recover_78 f_Md_38 rfl (in_fix rfl) rfl rfl ?_
          refine r_iconst (v := nI 5) hK d_Md_recover_81 (by decide) ?_
          refine r_aload_n hK d_Md_recover_82 rfl rfl ?_
          refine r_getR hK d_Md_recover_83 f_Md_38 rfl (in_fix rfl) rfl rfl ?_
          refine r_iconst (v := nI 5) hK d_Md_recover_86 (by decide) ?_
          refine r_iald hK d_Md_recover_87 rfl rfl (in_fix rfl) (ix_nI (j := 5) (by decide)) (by show 5 < 6; decide) r26 ?_
          refine r_iconst (v := nI 1) hK d_Md_recover_88 (by decide) ?_
          refine r_iadd hK d_Md_recover_89 (nI_add _ _) ?_
          refine r_iast hK d_Md_recover_90 rfl rfl (in_fix rfl) (ix_nI (j := 5) (by decide)) (by show 5 < 6; decide) ?_
          refine r_iconst (v := nI 1) hK d_Md_recover_91 (by decide) ?_
          exact hR.i d_Md_recover_92 rfl (⟨rfl, hMe, fun k hk => by rw [up_k (by omega)]; exact hF k hk⟩)
        | succ d ih =>
          intro v τ hv hMt hF
          have hvw : v < w := by omega
          have hx : 3 * v + h < 3 * w := by omega
          have hM2 := MP_3 (i := 3 * v + h) (v := bnd s.1 (3 * v + h) (s.1 8 h 0)) hMt
          have r25 : τ 25 0 h = nI (s.1 8 h 0) := by
            have := (hMt.2.2.2.2.2.1 h hh).2
            have e : (fun t i j => if t = 3 ∧ i % 3 = h ∧ i < 3 * v ∧ j = 0 then bnd s.1 i (s.1 8 h 0) else a0 t i j : Ab) 8 h 0 = s.1 8 h 0 := by
              show (if 8 = 3 ∧ h % 3 = h ∧ h < 3 * v ∧ 0 = 0 then bnd s.1 h (s.1 8 h 0) else a0 8 h 0) = _
              rw [if_neg (fun z => absurd z.1 (by decide)), z8]
            exact this.trans (congrArg nI e)
          have r18 : τ 18 0 (3 * v + h) = nI (s.1 1 (3 * v + h) 0) := by
            have := (hMt.2.2.1 (3 * v + h) hx).1
            have e : (fun t i j => if t = 3 ∧ i % 3 = h ∧ i < 3 * v ∧ j = 0 then bnd s.1 i (s.1 8 h 0) else a0 t i j : Ab) 1 (3 * v + h) 0 = s.1 1 (3 * v + h) 0 := by
              show (if 1 = 3 ∧ (3 * v + h) % 3 = h ∧ 3 * v + h < 3 * v ∧ 0 = 0 then bnd s.1 (3 * v + h) (s.1 8 h 0) else a0 1 (3 * v + h) 0) = _
              rw [if_neg (fun z => absurd z.1 (by decide)), z1]
            exact this.trans (congrArg nI e)
          have r21 : ∀ n, n < s.1 1 (3 * v + h) 0 → τ 21 0 (512 * (3 * v + h) + n) = nI (s.1 4 (3 * v + h) n) := fun n hn => by
            have := (hMt.2.2.2.1 (3 * v + h) n hx (by have := hmk _ hx; omega)).1
            have e : (fun t i j => if t = 3 ∧ i % 3 = h ∧ i < 3 * v ∧ j = 0 then bnd s.1 i (s.1 8 h 0) else a0 t i j : Ab) 4 (3 * v + h) n = s.1 4 (3 * v + h) n := by
              show (if 4 = 3 ∧ (3 * v + h) % 3 = h ∧ 3 * v + h < 3 * v ∧ n = 0 then bnd s.1 (3 * v + h) (s.1 8 h 0) else a0 4 (3 * v + h) n) = _
              rw [if_neg (fun z => absurd z.1 (by decide)), z4]
            exact this.trans (congrArg nI e)
          have hbd := c_Md_boundaryG (l := l) hg (f := s.1 4 (3 * v + h)) (by omega) hckb r18 (hmk _ hx) r21 (AI_f hA hx)
          have hih := ih (v + 1)
          rw [hsur v hvw] at hih
          refine r_iload_n hK d_Md_recover_38 rfl rfl ?_
          refine r_aload_n hK d_Md_recover_39 rfl rfl ?_
          refine r_getI hK d_Md_recover_40 f_Md_50 rfl (in_fix rfl) rfl rfl hMt.1.1 ?_
          refine rn_icmp_ge (tgt := 77) hK d_Md_recover_43 (by decide) (by first | omega | (split <;> omega)) (by first | omega | (split <;> omega)) (fun hno => absurd hno (by omega)) (fun _ => ?_)
          refine r_aload_n hK d_Md_recover_46 rfl rfl ?_
          refine r_getR hK d_Md_recover_47 f_Md_19 rfl (in_fix rfl) rfl rfl ?_
          refine r_iconst (v := nI 3) hK d_Md_recover_50 (by decide) ?_
          refine r_iload_n hK d_Md_recover_51 rfl rfl ?_
          refine r_imul hK d_Md_recover_52 (pk_mul _ _) ?_
          refine r_iload_n hK d_Md_recover_53 rfl rfl ?_
          refine r_iadd hK d_Md_recover_54 (nI_add _ _) ?_
          refine r_aload_n hK d_Md_recover_55 rfl rfl ?_
          refine r_iconst (v := nI 3) hK d_Md_recover_56 (by decide) ?_
          refine r_iload_n hK d_Md_recover_57 rfl rfl ?_
          refine r_imul hK d_Md_recover_58 (pk_mul _ _) ?_
          refine r_iload_n hK d_Md_recover_59 rfl rfl ?_
          refine r_iadd hK d_Md_recover_60 (nI_add _ _) ?_
          refine r_aload_n hK d_Md_recover_61 rfl rfl ?_
          refine r_getR hK d_Md_recover_62 f_Md_35 rfl (in_fix rfl) rfl rfl ?_
          refine r_iload_n hK d_Md_recover_65 rfl rfl ?_
          refine r_iald hK d_Md_recover_66 rfl rfl (in_fix rfl) (ix_nI (j := h) (by omega)) hh r25 ?_
          refine r_callVI hK d_Md_recover_67 m_Md_86 rfl (in_fix rfl) (hbd) (by decide) rfl rfl rfl ?_
          refine r_iast hK d_Md_recover_70 rfl rfl (in_fix rfl) (ix_nI (j := 3 * v + h) (by omega)) (by show 3 * v + h < 12; omega) ?_
          refine r_iinc hK d_Md_recover_71 rfl (nI_1 _) rfl ?_
          refine r_goto (tgt := 38) hK d_Md_recover_74 (by decide) ?_
          exact hih _ (by omega) hM2 (fun k hk => by rw [up_k (by omega)]; exact hF k hk)
      refine r_iload_n hK d_Md_recover_0 rfl rfl ?_
      refine r_callSI hK d_Md_recover_1 m_Md_127 (c_Md_isShard_t hg hh) (by decide) rfl rfl rfl ?_
      refine rn_if_eq (tgt := 16) hK d_Md_recover_4 (by decide) (by first | omega | (split <;> omega)) (fun hno => absurd hno (by omega)) (fun _ => ?_)
      refine r_aload_n hK d_Md_recover_7 rfl rfl ?_
      refine r_getR hK d_Md_recover_8 f_Md_32 rfl (in_fix rfl) rfl rfl ?_
      refine r_iload_n hK d_Md_recover_11 rfl rfl ?_
      refine r_zald hK d_Md_recover_12 rfl rfl (in_fix rfl) (ix_nI (j := h) (by omega)) hh s24 ?_
      refine rn_if_ne (tgt := 18) hK d_Md_recover_13 (by decide) (by first | omega | (split <;> omega)) (fun _ => ?_) (fun hno => absurd hno (by omega))
      refine r_aload_n hK d_Md_recover_18 rfl rfl ?_
      refine r_getR hK d_Md_recover_19 f_Md_32 rfl (in_fix rfl) rfl rfl ?_
      refine r_iload_n hK d_Md_recover_22 rfl rfl ?_
      refine r_iconst (v := nI 0) hK d_Md_recover_23 (by decide) ?_
      refine r_zast hK d_Md_recover_24 rfl rfl (in_fix rfl) (ix_nI (j := h) (by omega)) hh rfl ?_
      refine r_aload_n hK d_Md_recover_25 rfl rfl ?_
      refine r_iload_n hK d_Md_recover_26 rfl rfl ?_
      refine r_aload_n hK d_Md_recover_27 rfl rfl ?_
      refine r_getR hK d_Md_recover_28 f_Md_35 rfl (in_fix rfl) rfl rfl ?_
      refine r_iload_n hK d_Md_recover_31 rfl rfl ?_
      refine r_iald hK d_Md_recover_32 rfl rfl (in_fix rfl) (ix_nI (j := h) (by omega)) hh (v := nI (s.1 8 h 0)) (by rw [up_k (by decide)]; exact s25) ?_
      refine r_callVP hK d_Md_recover_33 m_Md_130 rfl (in_fix rfl) (htb) (by decide) rfl rfl rfl (fun r9 τ9 hP9 => ?_)
      obtain ⟨rfl, hTb⟩ := hP9
      have hMf : MP w sl ru (tkB w (ua s.1 7 h 0 0) h (fun x => bnd s.1 x (s.1 8 h 0)), s.2) τ9 := MP_tkB (N := N) (s := (ua s.1 7 h 0 0, s.2)) hM1 (fun x n hx hn => by show ua s.1 7 h 0 0 5 x n = 0; rw [t5]; have hn : ua s.1 7 h 0 0 1 x 0 ≤ n := hn; rw [t1] at hn; exact (hA.2.2.1 x hx).2.2.2.2.2.2.2.1 n hn) (fun x _ => by show bnd s.1 x (s.1 8 h 0) ≤ ua s.1 7 h 0 0 1 x 0; rw [t1]; exact bnF_le _ _ _) hw hTb
      rw [hA0] at hMf
      have e0 : (fun t i j => if t = 3 ∧ i % 3 = h ∧ i < 3 * 0 ∧ j = 0 then bnd s.1 i (s.1 8 h 0) else a0 t i j : Ab) = a0 := funext (fun t => funext (fun i => funext (fun j => if_neg (fun z => absurd z.2.2.1 (by omega)))))
      refine r_iconst (v := nI 0) hK d_Md_recover_36 (by decide) ?_
      refine r_istore_n hK d_Md_recover_37 rfl rfl rfl ?_
      exact hloop w 0 _ (by omega) (by rw [e0]; exact hMf) (fun k hk => by rw [hTb.2 k (by omega), up_k (by omega)])
end Md4
