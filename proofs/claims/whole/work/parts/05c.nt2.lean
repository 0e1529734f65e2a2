/-! Net.removeAllOf -/
def nth (h c : Nat) : Bool := c / 8 % 4 != h
def RaI (pk : List Nat) (h : Nat) (σ : Sg) (i m : Nat) (τ : Sg) : Prop := m = ((pk.take i).filter (nth h)).length ∧ (∀ j c, ((pk.take i).filter (nth h))[j]? = some c → τ 4 0 j = nI c) ∧ (∀ j c, i ≤ j → pk[j]? = some c → τ 4 0 j = nI c) ∧ ∀ k, k ≠ 4 → τ k = σ k
theorem take_succ {pk : List Nat} {i c : Nat} (h : pk[i]? = some c) : pk.take (i + 1) = pk.take i ++ [c] := by
  rw [List.take_add_one, h]
  rfl
theorem RaI_le {pk : List Nat} {h : Nat} {σ : Sg} {i m : Nat} {τ : Sg} (q : RaI pk h σ i m τ) : m ≤ i := by
  rw [q.1]
  exact Nat.le_trans (List.length_filter_le _ _) (List.length_take_le _ _)
theorem RaI_skip {pk : List Nat} {h : Nat} {σ : Sg} {i m c : Nat} {τ : Sg} (q : RaI pk h σ i m τ) (hc : pk[i]? = some c) (he : c / 8 % 4 = h) : RaI pk h σ (i + 1) m τ := by
  have e : ((pk.take (i + 1)).filter (nth h)) = (pk.take i).filter (nth h) := by
    rw [take_succ hc, List.filter_append]
    simp [nth, he]
  obtain ⟨q1, q2, q3, q4⟩ := q
  exact ⟨by rw [e]; exact q1, by rw [e]; exact q2, fun j c hj => q3 j c (by omega), q4⟩
theorem RaI_keep {pk : List Nat} {h : Nat} {σ : Sg} {i m c : Nat} {τ : Sg} (q : RaI pk h σ i m τ) (hc : pk[i]? = some c) (he : ¬ c / 8 % 4 = h) : RaI pk h σ (i + 1) (m + 1) (up τ 4 0 m (nI c)) := by
  have hle := RaI_le q
  have e : ((pk.take (i + 1)).filter (nth h)) = (pk.take i).filter (nth h) ++ [c] := by
    rw [take_succ hc, List.filter_append]
    simp [nth, he]
  obtain ⟨q1, q2, q3, q4⟩ := q
  refine ⟨by rw [e, List.length_append, ← q1]; rfl, fun j d hd => ?_, fun j d hj hd => ?_, fun k hk => by rw [up_k hk]; exact q4 k hk⟩
  · rw [e] at hd
    by_cases hj : j = m
    · subst hj
      rw [q1, List.getElem?_append_right (Nat.le_refl _)] at hd
      simp at hd
      rw [hd]
      simp [up_eq]
    · have hlt : j < m := by
        have := (List.getElem?_eq_some_iff.mp hd).1
        simp [← q1] at this
        omega
      rw [List.getElem?_append_left (by rw [← q1]; exact hlt)] at hd
      simp [up_eq, hj, q2 j d hd]
  · have : j ≠ m := by omega
    simp [up_eq, this, q3 j d (by omega) hd]
section Nt2
variable {l : Launch} {g : Gc} {σ : Sg}
theorem c_Nt_removeAllOf (hg : Gok g) {pk : List Nat} {h : Nat} (hs : σ 3 0 1 = nI pk.length) (hp : ∀ i c, pk[i]? = some c → σ 4 0 i = nI c) (hc : ∀ c, c ∈ pk → c < 2 ^ 31) (hn : pk.length ≤ 24) (hh : h < 3) : Ct l g y_Nt_removeAllOf 1 [.ref (g.1 3 0), .int (nI h)] σ (fun r τ => r = none ∧ τ 3 0 1 = nI (pk.filter (nth h)).length ∧ (∀ i c, (pk.filter (nth h))[i]? = some c → τ 4 0 i = nI c) ∧ (∀ j, j ≠ 1 → τ 3 0 j = σ 3 0 j) ∧ ∀ k, k ≠ 3 → k ≠ 4 → τ k = σ k) := by
  refine ofK hg w_cd_Nt_removeAllOf (by decide) (by decide) (by first | decide | simp) (by simp [Value.category]) ?_
  intro K hK hR
  have hK : Gd l g "GradientShards$Net" b_Nt_removeAllOf 4 _ K := hK
  have hloop : ∀ d i m τ, i + d = pk.length → RaI pk h σ i m τ → K 4 [.ref (g.1 3 0), .int (nI h), .int (nI m), .int (nI i)] [] τ := by
    intro d
    induction d with
    | zero =>
      intro i m τ hi hI
      have hle := RaI_le hI
      obtain ⟨q1, q2, q3, q4⟩ := hI
      rw [List.take_of_length_le (by omega)] at q1 q2
      refine r_iload_n hK d_Nt_removeAllOf_4 rfl rfl ?_
      refine r_aload_n hK d_Nt_removeAllOf_5 rfl rfl ?_
      refine r_getI hK d_Nt_removeAllOf_6 f_Nt_24 rfl (in_fix rfl) rfl rfl (v := nI pk.length) (by rw [q4 3 (by decide)]; exact hs) ?_
      refine rn_icmp_ge (tgt := 46) hK d_Nt_removeAllOf_9 (by decide) (by first | omega | (split <;> omega)) (by first | omega | (split <;> omega)) (fun _ => ?_) (fun hno => absurd hno (by omega))
      refine r_aload_n hK d_Nt_removeAllOf_46 rfl rfl ?_
      refine r_iload_n hK d_Nt_removeAllOf_47 rfl rfl ?_
      refine r_putI hK d_Nt_removeAllOf_48 f_Nt_24 rfl (in_fix rfl) rfl rfl rfl rfl ?_
      exact hR.v d_Nt_removeAllOf_51 (⟨rfl, by simp [up_eq, q1], fun j c hj => by rw [up_k (by decide)]; exact q2 j c hj, fun j hj => by simp [up_eq, hj, q4 3 (by decide)], fun k h3 h4 => by rw [up_k h3]; exact q4 k h4⟩)
    | succ d ih =>
      intro i m τ hi hI
      have hle := RaI_le hI
      obtain ⟨c, hci⟩ : ∃ c, pk[i]? = some c := ⟨_, List.getElem?_eq_getElem (by omega)⟩
      have hcm := hc c (List.mem_of_getElem? hci)
      have hv := hI.2.2.1 i c (Nat.le_refl _) hci
      have h3 := hI.2.2.2 3 (by decide)
      refine r_iload_n hK d_Nt_removeAllOf_4 rfl rfl ?_
      refine r_aload_n hK d_Nt_removeAllOf_5 rfl rfl ?_
      refine r_getI hK d_Nt_removeAllOf_6 f_Nt_24 rfl (in_fix rfl) rfl rfl (v := nI pk.length) (by rw [h3]; exact hs) ?_
      refine rn_icmp_ge (tgt := 46) hK d_Nt_removeAllOf_9 (by decide) (by first | omega | (split <;> omega)) (by first | omega | (split <;> omega)) (fun hno => absurd hno (by omega)) (fun _ => ?_)
      refine r_aload_n hK d_Nt_removeAllOf_12 rfl rfl ?_
      refine r_getR hK d_Nt_removeAllOf_13 f_Nt_9 rfl (in_fix rfl) rfl rfl ?_
      refine r_iload_n hK d_Nt_removeAllOf_16 rfl rfl ?_
      refine r_iald hK d_Nt_removeAllOf_17 rfl rfl (in_fix rfl) (ix_nI (j := i) (by omega)) (by show i < 24; omega) hv ?_
      refine r_callSI hK d_Nt_removeAllOf_18 m_Nt_43 (c_Nt_shardOf hg hcm) (by decide) rfl rfl rfl ?_
      refine r_iload_n hK d_Nt_removeAllOf_21 rfl rfl ?_
      refine rn_icmp_eq (tgt := 40) hK d_Nt_removeAllOf_22 (by decide) (by first | omega | (split <;> omega)) (by first | omega | (split <;> omega)) (fun q2 => ?_) (fun q2 => ?_)
      · have hI2 := RaI_skip hI hci q2
        refine r_iinc hK d_Nt_removeAllOf_40 rfl (nI_1 _) rfl ?_
        refine r_goto (tgt := 4) hK d_Nt_removeAllOf_43 (by decide) ?_
        exact ih (i + 1) _ _ (by omega) hI2
      · have hI2 := RaI_keep hI hci q2
        refine r_aload_n hK d_Nt_removeAllOf_25 rfl rfl ?_
        refine r_getR hK d_Nt_removeAllOf_26 f_Nt_9 rfl (in_fix rfl) rfl rfl ?_
        refine r_iload_n hK d_Nt_removeAllOf_29 rfl rfl ?_
        refine r_aload_n hK d_Nt_removeAllOf_30 rfl rfl ?_
        refine r_getR hK d_Nt_removeAllOf_31 f_Nt_9 rfl (in_fix rfl) rfl rfl ?_
        refine r_iload_n hK d_Nt_removeAllOf_34 rfl rfl ?_
        refine r_iald hK d_Nt_removeAllOf_35 rfl rfl (in_fix rfl) (ix_nI (j := i) (by omega)) (by show i < 24; omega) hv ?_
        refine r_iast hK d_Nt_removeAllOf_36 rfl rfl (in_fix rfl) (ix_nI (j := m) (by omega)) (by show m < 24; omega) ?_
        refine r_iinc hK d_Nt_removeAllOf_37 rfl (nI_1 _) rfl ?_
        refine r_iinc hK d_Nt_removeAllOf_40 rfl (nI_1 _) rfl ?_
        refine r_goto (tgt := 4) hK d_Nt_removeAllOf_43 (by decide) ?_
        exact ih (i + 1) _ _ (by omega) hI2
  refine r_iconst (v := nI 0) hK d_Nt_removeAllOf_0 (by decide) ?_
  refine r_istore_n hK d_Nt_removeAllOf_1 rfl rfl rfl ?_
  refine r_iconst (v := nI 0) hK d_Nt_removeAllOf_2 (by decide) ?_
  refine r_istore_n hK d_Nt_removeAllOf_3 rfl rfl rfl ?_
  exact hloop pk.length 0 0 σ (by omega) ⟨by simp, fun j c hj => by simp at hj, fun j c _ hj => hp j c hj, fun _ _ => rfl⟩
end Nt2
