/-! the law up to its loop -/
set_option maxHeartbeats 1000000 in
theorem law_pre {l : Launch} {D : va_G} {cA : Nat → ClassId} {A : Nat → Prop} {K : Kx} (hK : Gk l D cA [] A "GradientShardsLaw" b_Lw_law 4 room_1 false K) {b w sl ru : Nat} {V : Nat → Int32} (hw : w ≤ 4) (hu : Nwk (V 0) w) (hk : Nzk 3 (V 1) sl) (hr : Nzk 2 (V 2) ru)
    (hcell : ∀ (pc : Nat) (lv st : List Value) (X : va_W) (cells slots j : Nat), decode b_Lw_law pc = .ok (.invokestatic 9, 3) → j ≤ 2 → (st.map fun v => v.category).sum ≤ 8 → cells ≤ 600000 → slots ≤ 7302250 → K (pc + 3) lv (.int (V j) :: st) X cells slots → K pc lv (.int (nI j) :: .ref b :: st) X cells slots)
    (hend : ∀ (z : Nat → Nat) (a : Nat → Nat → Nat) (c : Nat → Nat → Nat → Nat) (m : Nat → Nat), K 48 [.ref b, .ref (z 0), .ref (m 16), .int (nI 3)] [] (([] ++ GH cA w sl ru z a c) ++ MB cA w sl ru m) 97 14908) : K 0 [.ref b] [] [] 0 0 := by
  refine x_new hK d_Lw_law_0 nw_Lw_7 (by show _ ≤ 600000; omega) (by show _ ≤ 7302250; omega) (fun q0 => ?_)
  refine x_dup hK d_Lw_law_3 rfl ?_
  refine x_aload_n hK d_Lw_law_4 rfl rfl ?_
  refine x_iconst (v := nI 0) hK d_Lw_law_5 (by decide) ?_
  refine hcell _ _ _ _ _ _ 0 d_Lw_law_6 (by omega) (by simp [Value.category]) (by omega) (by omega) ?_
  refine x_aload_n hK d_Lw_law_9 rfl rfl ?_
  refine x_iconst (v := nI 1) hK d_Lw_law_10 (by decide) ?_
  refine hcell _ _ _ _ _ _ 1 d_Lw_law_11 (by omega) (by simp [Value.category]) (by omega) (by omega) ?_
  refine x_aload_n hK d_Lw_law_14 rfl rfl ?_
  refine x_iconst (v := nI 2) hK d_Lw_law_15 (by decide) ?_
  refine hcell _ _ _ _ _ _ 2 d_Lw_law_16 (by omega) (by simp [Value.category]) (by omega) (by omega) ?_
  refine x_ctor hK d_Lw_law_19 mi_Lw_15 (c_Gs_init (d := 7) (by omega) hw hu hk hr) ⟨by decide, by decide⟩ rfl rfl rfl (by show _ ≤ 600000; omega) (by show _ ≤ 7302250; omega) (fun X1 hX1 => ?_)
  obtain ⟨z, a, c, rfl, rfl⟩ := hX1
  refine x_astore_n hK d_Lw_law_22 rfl rfl rfl ?_
  refine x_new hK d_Lw_law_23 nw_Lw_18 (by show _ ≤ 600000; omega) (by show _ ≤ 7302250; omega) (fun q23 => ?_)
  refine x_dup hK d_Lw_law_26 rfl ?_
  refine x_aload_n hK d_Lw_law_27 rfl rfl ?_
  refine x_iconst (v := nI 0) hK d_Lw_law_28 (by decide) ?_
  refine hcell _ _ _ _ _ _ 0 d_Lw_law_29 (by omega) (by simp [Value.category]) (by omega) (by omega) ?_
  refine x_aload_n hK d_Lw_law_32 rfl rfl ?_
  refine x_iconst (v := nI 1) hK d_Lw_law_33 (by decide) ?_
  refine hcell _ _ _ _ _ _ 1 d_Lw_law_34 (by omega) (by simp [Value.category]) (by omega) (by omega) ?_
  refine x_aload_n hK d_Lw_law_37 rfl rfl ?_
  refine x_iconst (v := nI 2) hK d_Lw_law_38 (by decide) ?_
  refine hcell _ _ _ _ _ _ 2 d_Lw_law_39 (by omega) (by simp [Value.category]) (by omega) (by omega) ?_
  refine x_ctor hK d_Lw_law_42 mi_Lw_20 (c_Md_init (d := 7) (by omega) hu hk hr) ⟨by decide, by decide⟩ rfl rfl rfl (by show _ ≤ 600000; omega) (by show _ ≤ 7302250; omega) (fun X2 hX2 => ?_)
  obtain ⟨m, rfl, rfl⟩ := hX2
  refine x_astore_n hK d_Lw_law_45 rfl rfl rfl ?_
  refine x_iconst (v := nI 3) hK d_Lw_law_46 (by decide) ?_
  refine x_istore_n hK d_Lw_law_47 rfl rfl rfl ?_
  exact hend z a c m
