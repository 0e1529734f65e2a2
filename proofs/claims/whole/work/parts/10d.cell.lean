/-! the law's reading of the script's first three cells -/
def Vx (L : Nat) (xs : Nat → Int32) (j : Nat) : Int32 := if j < L then xs j else 0
set_option maxHeartbeats 1000000 in
theorem c_Lw_cell {l : Launch} {b L j : Nat} {xs : Nat → Int32} (hL : L ≤ 2051) (hj : j ≤ 2) : Met l y_Lw_cell (Cond.code y_Lw_cell b_Lw_cell 2 (some .int) :: GW) (rmd 1) (va_Pc [.ref b, .int (nI j)] (fun U => va_X b L xs U U.heap ∧ b < U.heap.size)) (QcRead (Vx L xs j)) 0 0 (fun _ => False) := by
  refine Met.ofW (cc := b_Lw_cell) (maxL := 2) (ret := some .int) (by decide +kernel) rfl ?_
  intro p e s m args below meth c s₁ B hmlc hv
  obtain ⟨rfl, hX, hbl⟩ := hv
  have hx := B.exec
  have hb := B.bytes
  have hr := B.returns
  have hcat : ∀ v ∈ ([.ref b, .int (nI j)] : List Value), v.category = 1 := by simp [Value.category]
  have hl := lv_entry [.ref b, .int (nI j)] (n := 2) (by rw [lg_len _ hcat]; exact Nat.le_refl 2)
  rw [lg_entry_eq]
  generalize (lg_sl [.ref b, .int (nI j)] ++ List.replicate (2 - (lg_sl [.ref b, .int (nI j)]).length) Slot.unset).toArray = ls at hl ⊢
  rw [lvi_args _ 0 hcat] at hl
  have hS : va_S (fun _ => False) s.heap s.heap [] := va_S.rf
  have hend : ∀ v : Int32, v = Vx L xs j → W p l e (headSpec (Cond.code y_Lw_cell b_Lw_cell 2 (some .int) :: GW) (rmd 1)).room s m [Value.ref b, .int (nI j)].toArray below meth c s.heap [] 0 0 (MQ below (QcRead (Vx L xs j)) [Value.ref b, .int (nI j)].toArray s 0 0 (fun _ => False)) (F0 m 13 ls [.int v]) := by
    rintro _ rfl
    exact W.zret hx hb hr rfl (fun t ht hW => ⟨rfl, ht⟩) (fun q h => by cases h) d_Lw_cell_13
  refine lv_iload_n hx hb d_Lw_cell_0 rfl (lvi_at hl rfl) ?_
  refine lv_aload_n hx hb d_Lw_cell_1 rfl (lvi_at hl rfl) ?_
  refine va_slen hx hb hX hbl (fun q => q) hS d_Lw_cell_2 ?_
  refine lv_icmp_ge (tgt := 12) hx hb d_Lw_cell_3 (by decide) (fun q => ?_) (fun q => ?_)
  · refine lv_iconst hx hb d_Lw_cell_12 rfl ?_
    refine hend _ ?_
    have q : nI L ≤ nI j := q
    rw [nI_leI (by omega) (by omega)] at q
    unfold Vx
    rw [if_neg (by omega)]
    rfl
  · have q : ¬ nI L ≤ nI j := q
    rw [nI_leI (by omega) (by omega)] at q
    refine lv_aload_n hx hb d_Lw_cell_6 rfl (lvi_at hl rfl) ?_
    refine lv_iload_n hx hb d_Lw_cell_7 rfl (lvi_at hl rfl) ?_
    refine va_sld hx hb hX hbl (fun q => q) hS (nI_in (by omega) (by omega)) d_Lw_cell_8 ?_
    refine lv_goto (tgt := 13) hx hb d_Lw_cell_9 (by decide) ?_
    refine hend _ ?_
    rw [nI_clamp (by omega)]
    unfold Vx
    rw [if_pos (by omega)]
