abbrev fs_Lk : List Value := [.int 0, .int 0, .null, .null, .null, .null, .int 0, .int 0, .int 0, .int 0, .int 0, .int 0]
abbrev fs_Nt : List Value := [.null, .int 0, .int 0, .int 0]
abbrev fs_Sh : List Value := [.int 0, .null, .null, .null, .null, .null, .int 0, .int 0, .int 0]
abbrev fs_Gs : List Value := [.int 0, .null, .null, .null, .int 0, .int 0, .int 0, .int 0, .int 0]
abbrev fs_Md : List Value := [.int 0, .int 0, .int 0, .int 0, .null, .null, .null, .null, .null, .null, .null, .null, .null, .null, .int 0, .null, .null, .null, .int 0, .int 0]
def pv0 (ty : FieldType) : Value := defaultValue ty
theorem fp_Lk_11 : Flp "GradientShards$Link" 11 0 2 (.array .int) true := ⟨R_Lk, T_Lk, 12, ty_Lk, rfl, by decide, uw_Lk, tyok_Lk, nm_Lk, by decide +kernel, rfl, rfl, w_fl_Lk_11⟩
theorem fp_Lk_15 : Flp "GradientShards$Link" 15 0 3 (.array .int) true := ⟨R_Lk, T_Lk, 12, ty_Lk, rfl, by decide, uw_Lk, tyok_Lk, nm_Lk, by decide +kernel, rfl, rfl, w_fl_Lk_15⟩
theorem fp_Lk_18 : Flp "GradientShards$Link" 18 0 4 (.array .int) true := ⟨R_Lk, T_Lk, 12, ty_Lk, rfl, by decide, uw_Lk, tyok_Lk, nm_Lk, by decide +kernel, rfl, rfl, w_fl_Lk_18⟩
theorem fp_Lk_21 : Flp "GradientShards$Link" 21 0 5 (.array .boolean) true := ⟨R_Lk, T_Lk, 12, ty_Lk, rfl, by decide, uw_Lk, tyok_Lk, nm_Lk, by decide +kernel, rfl, rfl, w_fl_Lk_21⟩
theorem fp_Lk_25 : Flp "GradientShards$Link" 25 0 0 .int true := ⟨R_Lk, T_Lk, 12, ty_Lk, rfl, by decide, uw_Lk, tyok_Lk, nm_Lk, by decide +kernel, rfl, rfl, w_fl_Lk_25⟩
theorem fp_Lk_29 : Flp "GradientShards$Link" 29 0 1 .int true := ⟨R_Lk, T_Lk, 12, ty_Lk, rfl, by decide, uw_Lk, tyok_Lk, nm_Lk, by decide +kernel, rfl, rfl, w_fl_Lk_29⟩
theorem fp_Nt_9 : Flp "GradientShards$Net" 9 1 0 (.array .int) true := ⟨R_Nt, T_Nt, 4, ty_Nt, rfl, by decide, uw_Nt, tyok_Nt, nm_Nt, by decide +kernel, rfl, rfl, w_fl_Nt_9⟩
theorem fp_Sh_9 : Flp "GradientShards$Shard" 9 2 2 (.array .int) true := ⟨R_Sh, T_Sh, 9, ty_Sh, rfl, by decide, uw_Sh, tyok_Sh, nm_Sh, by decide +kernel, rfl, rfl, w_fl_Sh_9⟩
theorem fp_Sh_15 : Flp "GradientShards$Shard" 15 2 3 (.array .int) true := ⟨R_Sh, T_Sh, 9, ty_Sh, rfl, by decide, uw_Sh, tyok_Sh, nm_Sh, by decide +kernel, rfl, rfl, w_fl_Sh_15⟩
theorem fp_Sh_18 : Flp "GradientShards$Shard" 18 2 4 (.array .int) true := ⟨R_Sh, T_Sh, 9, ty_Sh, rfl, by decide, uw_Sh, tyok_Sh, nm_Sh, by decide +kernel, rfl, rfl, w_fl_Sh_18⟩
theorem fp_Sh_21 : Flp "GradientShards$Shard" 21 2 5 (.array .int) true := ⟨R_Sh, T_Sh, 9, ty_Sh, rfl, by decide, uw_Sh, tyok_Sh, nm_Sh, by decide +kernel, rfl, rfl, w_fl_Sh_21⟩
theorem fp_Sh_24 : Flp "GradientShards$Shard" 24 2 8 .boolean false := ⟨R_Sh, T_Sh, 9, ty_Sh, rfl, by decide, uw_Sh, tyok_Sh, nm_Sh, by decide +kernel, rfl, rfl, w_fl_Sh_24⟩
theorem fp_Sh_28 : Flp "GradientShards$Shard" 28 2 0 .int true := ⟨R_Sh, T_Sh, 9, ty_Sh, rfl, by decide, uw_Sh, tyok_Sh, nm_Sh, by decide +kernel, rfl, rfl, w_fl_Sh_28⟩
theorem fp_Sh_34 : Flp "GradientShards$Shard" 34 2 1 (.array (.object "GradientShards$Link")) true := ⟨R_Sh, T_Sh, 9, ty_Sh, rfl, by decide, uw_Sh, tyok_Sh, nm_Sh, by decide +kernel, rfl, rfl, w_fl_Sh_34⟩
theorem fp_Gs_7 : Flp "GradientShards" 7 3 0 .int true := ⟨R_Gs, T_Gs, 9, ty_Gs, rfl, by decide, uw_Gs, tyok_Gs, nm_Gs, by decide +kernel, rfl, rfl, w_fl_Gs_7⟩
theorem fp_Gs_13 : Flp "GradientShards" 13 3 1 (.array .int) true := ⟨R_Gs, T_Gs, 9, ty_Gs, rfl, by decide, uw_Gs, tyok_Gs, nm_Gs, by decide +kernel, rfl, rfl, w_fl_Gs_13⟩
theorem fp_Gs_19 : Flp "GradientShards" 19 3 2 (.array (.object "GradientShards$Shard")) true := ⟨R_Gs, T_Gs, 9, ty_Gs, rfl, by decide, uw_Gs, tyok_Gs, nm_Gs, by decide +kernel, rfl, rfl, w_fl_Gs_19⟩
theorem fp_Gs_29 : Flp "GradientShards" 29 3 3 (.object "GradientShards$Net") true := ⟨R_Gs, T_Gs, 9, ty_Gs, rfl, by decide, uw_Gs, tyok_Gs, nm_Gs, by decide +kernel, rfl, rfl, w_fl_Gs_29⟩
theorem fp_Md_7 : Flp "GradientShardsModel" 7 4 4 (.array .int) false := ⟨R_Md, T_Md, 20, ty_Md, rfl, by decide, uw_Md, tyok_Md, nm_Md, by decide +kernel, rfl, rfl, w_fl_Md_7⟩
theorem fp_Md_13 : Flp "GradientShardsModel" 13 4 5 (.array .int) false := ⟨R_Md, T_Md, 20, ty_Md, rfl, by decide, uw_Md, tyok_Md, nm_Md, by decide +kernel, rfl, rfl, w_fl_Md_13⟩
theorem fp_Md_16 : Flp "GradientShardsModel" 16 4 6 (.array .int) false := ⟨R_Md, T_Md, 20, ty_Md, rfl, by decide, uw_Md, tyok_Md, nm_Md, by decide +kernel, rfl, rfl, w_fl_Md_16⟩
theorem fp_Md_19 : Flp "GradientShardsModel" 19 4 7 (.array .int) false := ⟨R_Md, T_Md, 20, ty_Md, rfl, by decide, uw_Md, tyok_Md, nm_Md, by decide +kernel, rfl, rfl, w_fl_Md_19⟩
theorem fp_Md_22 : Flp "GradientShardsModel" 22 4 8 (.array .int) false := ⟨R_Md, T_Md, 20, ty_Md, rfl, by decide, uw_Md, tyok_Md, nm_Md, by decide +kernel, rfl, rfl, w_fl_Md_22⟩
theorem fp_Md_25 : Flp "GradientShardsModel" 25 4 9 (.array .boolean) false := ⟨R_Md, T_Md, 20, ty_Md, rfl, by decide, uw_Md, tyok_Md, nm_Md, by decide +kernel, rfl, rfl, w_fl_Md_25⟩
theorem fp_Md_29 : Flp "GradientShardsModel" 29 4 10 (.array .int) false := ⟨R_Md, T_Md, 20, ty_Md, rfl, by decide, uw_Md, tyok_Md, nm_Md, by decide +kernel, rfl, rfl, w_fl_Md_29⟩
theorem fp_Md_32 : Flp "GradientShardsModel" 32 4 11 (.array .boolean) false := ⟨R_Md, T_Md, 20, ty_Md, rfl, by decide, uw_Md, tyok_Md, nm_Md, by decide +kernel, rfl, rfl, w_fl_Md_32⟩
theorem fp_Md_35 : Flp "GradientShardsModel" 35 4 12 (.array .int) false := ⟨R_Md, T_Md, 20, ty_Md, rfl, by decide, uw_Md, tyok_Md, nm_Md, by decide +kernel, rfl, rfl, w_fl_Md_35⟩
theorem fp_Md_38 : Flp "GradientShardsModel" 38 4 13 (.array .int) false := ⟨R_Md, T_Md, 20, ty_Md, rfl, by decide, uw_Md, tyok_Md, nm_Md, by decide +kernel, rfl, rfl, w_fl_Md_38⟩
theorem fp_Md_41 : Flp "GradientShardsModel" 41 4 15 (.array .boolean) false := ⟨R_Md, T_Md, 20, ty_Md, rfl, by decide, uw_Md, tyok_Md, nm_Md, by decide +kernel, rfl, rfl, w_fl_Md_41⟩
theorem fp_Md_44 : Flp "GradientShardsModel" 44 4 16 (.array .int) false := ⟨R_Md, T_Md, 20, ty_Md, rfl, by decide, uw_Md, tyok_Md, nm_Md, by decide +kernel, rfl, rfl, w_fl_Md_44⟩
theorem fp_Md_47 : Flp "GradientShardsModel" 47 4 17 (.array .int) false := ⟨R_Md, T_Md, 20, ty_Md, rfl, by decide, uw_Md, tyok_Md, nm_Md, by decide +kernel, rfl, rfl, w_fl_Md_47⟩
theorem fp_Md_50 : Flp "GradientShardsModel" 50 4 0 .int false := ⟨R_Md, T_Md, 20, ty_Md, rfl, by decide, uw_Md, tyok_Md, nm_Md, by decide +kernel, rfl, rfl, w_fl_Md_50⟩
theorem fp_Md_54 : Flp "GradientShardsModel" 54 4 1 .int false := ⟨R_Md, T_Md, 20, ty_Md, rfl, by decide, uw_Md, tyok_Md, nm_Md, by decide +kernel, rfl, rfl, w_fl_Md_54⟩
theorem fp_Md_57 : Flp "GradientShardsModel" 57 4 2 .int false := ⟨R_Md, T_Md, 20, ty_Md, rfl, by decide, uw_Md, tyok_Md, nm_Md, by decide +kernel, rfl, rfl, w_fl_Md_57⟩
theorem nw_Sh_32 : Nwf "GradientShards$Shard" 32 0 12 fs_Lk := ⟨R_Lk, T_Lk, ty_Lk, rfl, uw_Lk, tyok_Lk, w_cl_Sh_32, w_is_Lk, w_in_Lk, by decide +kernel⟩
theorem mi_Sh_38 : Mi "GradientShards$Shard" 38 y_Lk_init 2 := ⟨Or.inr ⟨_, w_nm_Sh_38⟩, w_im_Lk_init, w_in_Lk, rfl, by decide +kernel⟩
theorem nw_Gs_17 : Nwf "GradientShards" 17 2 9 fs_Sh := ⟨R_Sh, T_Sh, ty_Sh, rfl, uw_Sh, tyok_Sh, w_cl_Gs_17, w_is_Sh, w_in_Sh, by decide +kernel⟩
theorem mi_Gs_23 : Mi "GradientShards" 23 y_Sh_init 3 := ⟨Or.inr ⟨_, w_nm_Gs_23⟩, w_im_Sh_init, w_in_Sh, rfl, by decide +kernel⟩
theorem nw_Gs_26 : Nwf "GradientShards" 26 1 4 fs_Nt := ⟨R_Nt, T_Nt, ty_Nt, rfl, uw_Nt, tyok_Nt, w_cl_Gs_26, w_is_Nt, w_in_Nt, by decide +kernel⟩
theorem mi_Gs_28 : Mi "GradientShards" 28 y_Nt_init 0 := ⟨Or.inr ⟨_, w_nm_Gs_28⟩, w_im_Nt_init, w_in_Nt, rfl, by decide +kernel⟩
theorem nw_Lw_7 : Nwf "GradientShardsLaw" 7 3 9 fs_Gs := ⟨R_Gs, T_Gs, ty_Gs, rfl, uw_Gs, tyok_Gs, w_cl_Lw_7, w_is_Gs, w_in_Gs, by decide +kernel⟩
theorem mi_Lw_15 : Mi "GradientShardsLaw" 15 y_Gs_init 3 := ⟨Or.inl w_ml_Lw_15, w_im_Gs_init, w_in_Gs, rfl, by decide +kernel⟩
theorem nw_Lw_18 : Nwf "GradientShardsLaw" 18 4 20 fs_Md := ⟨R_Md, T_Md, ty_Md, rfl, uw_Md, tyok_Md, w_cl_Lw_18, w_is_Md, w_in_Md, by decide +kernel⟩
theorem mi_Lw_20 : Mi "GradientShardsLaw" 20 y_Md_init 3 := ⟨Or.inl w_ml_Lw_20, w_im_Md_init, w_in_Md, rfl, by decide +kernel⟩
section KC
variable {l : Launch} {D : va_G} {cA : Nat → ClassId} {W0 : va_W}
def LB (cA : Nat → ClassId) (a : Nat → Nat) (i h : Nat) : va_W := [(a 11, .inr (0, [.int (nI i), .int (nI h), .ref (a 12), .ref (a 13), .ref (a 14), .ref (a 15), .int 0, .int 0, .int 0, .int 0, .int 0, .int 0])), (a 12, .inl (cA 0, 32, .inl (fun _ => 0))), (a 13, .inl (cA 0, 32, .inl (fun _ => 0))), (a 14, .inl (cA 0, 32, .inl (fun _ => 0))), (a 15, .inl (cA 1, 32, .inl (fun _ => 0)))]
def pk5 (b q1 q2 q3 q4 : Nat) : Nat → Nat := fun k => if k = 11 then b else if k = 12 then q1 else if k = 13 then q2 else if k = 14 then q3 else q4
set_option maxHeartbeats 1000000 in
theorem c_Lk_init {d b i h : Nat} (hd : 1 ≤ d) : CtC l D cA y_Lk_init d 4 128 [.ref b, .int (nI i), .int (nI h)] W0 [(b, .inr (0, fs_Lk))] (fun X => ∃ a : Nat → Nat, a 11 = b ∧ X = LB cA a i h) := by
  refine ofC (y := y_Lk_init) w_cd_Lk_init (by decide) (by decide +kernel) rfl (by simp) (by simp [Value.category]) (fun A K hK hR => ?_)
  have hfr : 1 ≤ (rmc d 4 128).frames := by show 1 ≤ d; omega
  have hlo : 36 ≤ (rmc d 4 128).locals := by show 36 ≤ 36 * d; omega
  refine x_aload_n hK d_Lk_init_0 rfl rfl ?_
  refine x_objinit hK d_Lk_init_1 w_ml_Lk_3 hfr hlo (by simp) ?_
  refine x_aload_n hK d_Lk_init_4 rfl rfl ?_
  refine x_bipush (v := nI 32) hK d_Lk_init_5 (by decide) ?_
  refine x_newi hK d_Lk_init_7 (by omega) (by show _ ≤ 4; omega) (by show _ ≤ 128; omega) (fun q7 => ?_)
  refine x_put hK rfl 0 d_Lk_init_9 fp_Lk_11 rfl rfl rfl rfl ?_
  refine x_aload_n hK d_Lk_init_12 rfl rfl ?_
  refine x_bipush (v := nI 32) hK d_Lk_init_13 (by decide) ?_
  refine x_newi hK d_Lk_init_15 (by omega) (by show _ ≤ 4; omega) (by show _ ≤ 128; omega) (fun q15 => ?_)
  refine x_put hK rfl 0 d_Lk_init_17 fp_Lk_15 rfl rfl rfl rfl ?_
  refine x_aload_n hK d_Lk_init_20 rfl rfl ?_
  refine x_bipush (v := nI 32) hK d_Lk_init_21 (by decide) ?_
  refine x_newi hK d_Lk_init_23 (by omega) (by show _ ≤ 4; omega) (by show _ ≤ 128; omega) (fun q23 => ?_)
  refine x_put hK rfl 0 d_Lk_init_25 fp_Lk_18 rfl rfl rfl rfl ?_
  refine x_aload_n hK d_Lk_init_28 rfl rfl ?_
  refine x_bipush (v := nI 32) hK d_Lk_init_29 (by decide) ?_
  refine x_newz hK d_Lk_init_31 (by omega) (by show _ ≤ 4; omega) (by show _ ≤ 128; omega) (fun q31 => ?_)
  refine x_put hK rfl 0 d_Lk_init_33 fp_Lk_21 rfl rfl rfl rfl ?_
  refine x_aload_n hK d_Lk_init_36 rfl rfl ?_
  refine x_iload_n hK d_Lk_init_37 rfl rfl ?_
  refine x_put hK rfl 0 d_Lk_init_38 fp_Lk_25 rfl rfl rfl rfl ?_
  refine x_aload_n hK d_Lk_init_41 rfl rfl ?_
  refine x_iload_n hK d_Lk_init_42 rfl rfl ?_
  refine x_put hK rfl 0 d_Lk_init_43 fp_Lk_29 rfl rfl rfl rfl ?_
  exact hR _ _ _ _ _ d_Lk_init_46 (by decide) (by decide) ⟨pk5 b q7 q15 q23 q31, rfl, rfl⟩
def NB (cA : Nat → ClassId) (z : Nat → Nat) : va_W := [(z 3, .inr (1, [.ref (z 4), .int 0, .int 0, .int 0])), (z 4, .inl (cA 0, 24, .inl (fun _ => 0)))]
theorem c_Nt_init {d b : Nat} (hd : 1 ≤ d) : CtC l D cA y_Nt_init d 1 24 [.ref b] W0 [(b, .inr (1, fs_Nt))] (fun X => ∃ z : Nat → Nat, z 3 = b ∧ X = NB cA z) := by
  refine ofC (y := y_Nt_init) w_cd_Nt_init (by decide) (by decide +kernel) rfl (by simp) (by simp [Value.category]) (fun A K hK hR => ?_)
  have hfr : 1 ≤ (rmc d 1 24).frames := by show 1 ≤ d; omega
  have hlo : 36 ≤ (rmc d 1 24).locals := by show 36 ≤ 36 * d; omega
  refine x_aload_n hK d_Nt_init_0 rfl rfl ?_
  refine x_objinit hK d_Nt_init_1 w_ml_Nt_3 hfr hlo (by simp) ?_
  refine x_aload_n hK d_Nt_init_4 rfl rfl ?_
  refine x_bipush (v := nI 24) hK d_Nt_init_5 (by decide) ?_
  refine x_newi hK d_Nt_init_7 (by omega) (by show _ ≤ 1; omega) (by show _ ≤ 24; omega) (fun q7 => ?_)
  refine x_put hK rfl 0 d_Nt_init_9 fp_Nt_9 rfl rfl rfl rfl ?_
  exact hR _ _ _ _ _ d_Nt_init_12 (by decide) (by decide) ⟨fun k => if k = 3 then b else q7, rfl, rfl⟩
def lbv (a : Nat → Nat) (i h : Nat) : List Value := [.int (nI i), .int (nI h), .ref (a 12), .ref (a 13), .ref (a 14), .ref (a 15), .int 0, .int 0, .int 0, .int 0, .int 0, .int 0]
theorem lb_at {X1 : va_W} {a : Nat → Nat} {i h : Nat} : (X1 ++ LB cA a i h)[X1.length]? = some (a 11, .inr (0, lbv a i h)) := by
  simp [LB, lbv]
theorem kto {K : Kx} {pc : Nat} {lv lv' st : List Value} {X X' : va_W} {c c' s s' : Nat} (hX : X = X') (hc : c = c') (hs : s = s') (hl : lv = lv') (k : K pc lv' st X' c' s') : K pc lv st X c s := by
  subst hX hc hs hl
  exact k
def cut (f : Nat → Nat) (t : Nat) : Nat → Option Nat := fun j => if j < t then some (f j) else none
theorem cut_0 (f : Nat → Nat) : cut f 0 = fun _ => none := by
  funext j; simp [cut]
theorem cut_up (f f' : Nat → Nat) (t q : Nat) (h : ∀ j, j < t → f' j = f j) (h2 : f' t = q) : va_up (cut f t) t (some q) = cut f' (t + 1) := by
  funext j
  unfold va_up cut
  by_cases e : j = t
  · subst e; rw [if_pos rfl, if_pos (by omega), h2]
  · rw [if_neg e]
    by_cases e2 : j < t
    · rw [if_pos e2, if_pos (by omega), h j e2]
    · rw [if_neg e2, if_neg (by omega)]
theorem fm_congr {α : Type} {f g : Nat → List α} : ∀ (L : List Nat), (∀ j ∈ L, f j = g j) → L.flatMap f = L.flatMap g
  | [], _ => rfl
  | x :: t, h => by rw [List.flatMap_cons, List.flatMap_cons, h x (by simp), fm_congr t (fun j hj => h j (by simp [hj]))]
theorem fm_succ {α : Type} {f g : Nat → List α} {t : Nat} (h : ∀ j, j < t → g j = f j) : (List.range (t + 1)).flatMap g = (List.range t).flatMap f ++ g t := by
  rw [List.range_succ, List.flatMap_append, fm_congr (List.range t) (fun j hj => h j (List.mem_range.mp hj))]
  simp
/-- what a number given to a constructor counts as -/
def Nwk (u : Int32) (w : Nat) : Prop := ((u < nI 1 ∨ nI 4 < u) ∧ w = 2) ∨ (¬ u < nI 1 ∧ ¬ nI 4 < u ∧ u = nI w)
def Nzk (n : Nat) (x : Int32) (v : Nat) : Prop := ((x < 0 ∨ nI n < x) ∧ v = 0) ∨ (¬ x < 0 ∧ ¬ nI n < x ∧ x = nI v)
theorem i32_le {x y : Int32} (h : ¬ y < x) : x ≤ y := by
  rw [Int32.le_iff_toInt_le]
  rw [Int32.lt_iff_toInt_lt] at h
  omega
theorem nwk_ex (u : Int32) : ∃ w, 1 ≤ w ∧ w ≤ 4 ∧ Nwk u w := by
  by_cases h1 : u < nI 1
  · exact ⟨2, by omega, by omega, Or.inl ⟨Or.inl h1, rfl⟩⟩
  by_cases h4 : nI 4 < u
  · exact ⟨2, by omega, by omega, Or.inl ⟨Or.inr h4, rfl⟩⟩
  have h1' : nI 1 ≤ u := i32_le h1
  have h0 : ¬ u < 0 := by
    rw [Int32.le_iff_toInt_le, nI_toInt (by omega)] at h1'
    rw [Int32.lt_iff_toInt_lt]
    intro q
    have : (0 : Int32).toInt = 0 := rfl
    omega
  obtain ⟨j, hj, rfl⟩ := nI_of h0
  rw [nI_leI (by omega) hj] at h1'
  have h4' := i32_le h4
  rw [nI_leI hj (by omega)] at h4'
  exact ⟨j, h1', h4', Or.inr ⟨h1, h4, rfl⟩⟩
theorem nzk_ex (n : Nat) (hn : n < 2 ^ 31) (x : Int32) : ∃ v, v ≤ n ∧ Nzk n x v := by
  by_cases h0 : x < 0
  · exact ⟨0, by omega, Or.inl ⟨Or.inl h0, rfl⟩⟩
  by_cases h4 : nI n < x
  · exact ⟨0, by omega, Or.inl ⟨Or.inr h4, rfl⟩⟩
  obtain ⟨j, hj, rfl⟩ := nI_of h0
  have h4' := i32_le h4
  rw [nI_leI hj hn] at h4'
  exact ⟨j, h4', Or.inr ⟨h0, h4, rfl⟩⟩
section KN
variable {A : Nat → Prop} {own : String} {cc : ByteArray} {nL : Nat} {R : Room} {ini : Bool} {K : Kx} {pc : Nat} {lv st : List Value} {X : va_W} {cells slots : Nat}
theorem x_nw (hK : Gk l D cA W0 A own cc nL R ini K) {k : Fin 4} {i : Nat} (hi : (k : Nat) = i) {u : Int32} {w : Nat} (hu : Nwk u w) (hv : lv[i]? = some (.int u)) (d0 : decode cc pc = .ok (.iload_n k, 1)) (d1 : decode cc (pc + 1) = .ok (.iconst 1, 1)) (d2 : decode cc (pc + 2) = .ok (.if_icmp .lt 12, 3)) (d5 : decode cc (pc + 5) = .ok (.iload_n k, 1)) (d6 : decode cc (pc + 6) = .ok (.iconst 4, 1)) (d7 : decode cc (pc + 7) = .ok (.if_icmp .gt 7, 3)) (d10 : decode cc (pc + 10) = .ok (.iload_n k, 1)) (d11 : decode cc (pc + 11) = .ok (.goto 4, 3)) (d14 : decode cc (pc + 14) = .ok (.iconst 2, 1)) (kk : K (pc + 15) lv (.int (nI w) :: st) X cells slots) : K pc lv st X cells slots := by
  refine x_iload_n hK d0 hi hv ?_
  refine x_iconst (v := nI 1) hK d1 (by decide) ?_
  refine x_icmp_lt (tgt := pc + 14) hK d2 (by omega) (fun h => ?_) (fun h => ?_)
  · refine x_iconst (v := nI 2) hK d14 (by decide) ?_
    rcases hu with ⟨-, rfl⟩ | ⟨q, -⟩
    · exact kk
    · exact absurd h q
  · refine x_iload_n hK d5 hi hv ?_
    refine x_iconst (v := nI 4) hK d6 (by decide) ?_
    refine x_icmp_gt (tgt := pc + 14) hK d7 (by omega) (fun h4 => ?_) (fun h4 => ?_)
    · refine x_iconst (v := nI 2) hK d14 (by decide) ?_
      rcases hu with ⟨-, rfl⟩ | ⟨-, q, -⟩
      · exact kk
      · exact absurd h4 q
    · refine x_iload_n hK d10 hi hv ?_
      refine x_goto (tgt := pc + 15) hK d11 (by omega) ?_
      rcases hu with ⟨q | q, -⟩ | ⟨-, -, e⟩
      · exact absurd q h
      · exact absurd q h4
      · rw [e]; exact kk
theorem x_nz (hK : Gk l D cA W0 A own cc nL R ini K) {k : Fin 4} {i n : Nat} {n0 : Int} (hn0 : Int32.ofInt n0 = nI n) (hi : (k : Nat) = i) {u : Int32} {w : Nat} (hu : Nzk n u w) (hv : lv[i]? = some (.int u)) (d0 : decode cc pc = .ok (.iload_n k, 1)) (d1 : decode cc (pc + 1) = .ok (.ifCond .lt 12, 3)) (d4 : decode cc (pc + 4) = .ok (.iload_n k, 1)) (d5 : decode cc (pc + 5) = .ok (.iconst n0, 1)) (d6 : decode cc (pc + 6) = .ok (.if_icmp .gt 7, 3)) (d9 : decode cc (pc + 9) = .ok (.iload_n k, 1)) (d10 : decode cc (pc + 10) = .ok (.goto 4, 3)) (d13 : decode cc (pc + 13) = .ok (.iconst 0, 1)) (kk : K (pc + 14) lv (.int (nI w) :: st) X cells slots) : K pc lv st X cells slots := by
  refine x_iload_n hK d0 hi hv ?_
  refine x_if_lt (tgt := pc + 13) hK d1 (by omega) (fun h => ?_) (fun h => ?_)
  · refine x_iconst (v := nI 0) hK d13 (by decide) ?_
    rcases hu with ⟨-, rfl⟩ | ⟨q, -⟩
    · exact kk
    · exact absurd h q
  · refine x_iload_n hK d4 hi hv ?_
    refine x_iconst (v := nI n) hK d5 hn0 ?_
    refine x_icmp_gt (tgt := pc + 13) hK d6 (by omega) (fun h4 => ?_) (fun h4 => ?_)
    · refine x_iconst (v := nI 0) hK d13 (by decide) ?_
      rcases hu with ⟨-, rfl⟩ | ⟨-, q, -⟩
      · exact kk
      · exact absurd h4 q
    · refine x_iload_n hK d9 hi hv ?_
      refine x_goto (tgt := pc + 14) hK d10 (by omega) ?_
      rcases hu with ⟨q | q, -⟩ | ⟨-, -, e⟩
      · exact absurd q h
      · exact absurd q h4
      · rw [e]; exact kk
end KN
def rfa (f : Nat → Option Nat) : (Nat → Int32) ⊕ (Nat → Int64) ⊕ (Nat → UInt32) ⊕ (Nat → UInt64) ⊕ (Nat → Option Nat) := .inr (.inr (.inr (.inr f)))
def SB (cA : Nat → ClassId) (w ru : Nat) (a : Nat → Nat) (f : Nat → Option Nat) : va_W := [(a 5, .inr (2, [.int (nI ru), .ref (a 6), .ref (a 7), .ref (a 8), .ref (a 9), .ref (a 10), .int 0, .int 0, .int (nI 1)])), (a 7, .inl (cA 0, 2, .inl (fun _ => 0))), (a 8, .inl (cA 0, 2, .inl (fun _ => 0))), (a 9, .inl (cA 0, 2, .inl (fun _ => 0))), (a 10, .inl (cA 0, 2, .inl (fun _ => 0))), (a 6, .inl (cA 3, w, rfa f))]
def LF (cA : Nat → ClassId) (c : Nat → Nat → Nat) (h t : Nat) : va_W := (List.range t).flatMap (fun i => LB cA (c i) i h)
def SH (cA : Nat → ClassId) (w ru h : Nat) (a : Nat → Nat) (c : Nat → Nat → Nat) : va_W := SB cA w ru a (cut (fun j => c j 11) w) ++ LF cA c h w
def pk6 (b q7 q8 q9 q10 q6 : Nat) : Nat → Nat := fun k => if k = 5 then b else if k = 7 then q7 else if k = 8 then q8 else if k = 9 then q9 else if k = 10 then q10 else q6
theorem sb_step {w ru i h : Nat} {a0 a : Nat → Nat} {c : Nat → Nat → Nat} : ((SB cA w ru a0 (cut (fun j => c j 11) i) ++ LF cA c h i) ++ LB cA a i h).set 5 (a0 6, .inl (cA 3, w, rfa (va_up (cut (fun j => c j 11) i) i (some (a 11))))) = SB cA w ru a0 (cut (fun j => (fun k => if k = i then a else c k) j 11) (i + 1)) ++ LF cA (fun k => if k = i then a else c k) h (i + 1) := by
  rw [cut_up (fun j => c j 11) (fun j => (fun k => if k = i then a else c k) j 11) i (a 11) (fun j hj => by simp [Nat.ne_of_lt hj]) (by simp)]
  unfold LF
  rw [fm_succ (f := fun i => LB cA (c i) i h) (g := fun j => LB cA ((fun k => if k = i then a else c k) j) j h) (fun j hj => by simp [Nat.ne_of_lt hj])]
  simp [SB]
set_option maxHeartbeats 2000000 in
theorem c_Sh_init {d b h w ru : Nat} (hd : 2 ≤ d) (hw : w ≤ 4) : CtC l D cA y_Sh_init d 25 572 [.ref b, .int (nI h), .int (nI w), .int (nI ru)] W0 [(b, .inr (2, fs_Sh))] (fun X => ∃ (a : Nat → Nat) (c : Nat → Nat → Nat), a 5 = b ∧ X = SH cA w ru h a c) := by
  refine ofC (y := y_Sh_init) w_cd_Sh_init (by decide) (by decide +kernel) rfl (by simp) (by simp [Value.category]) (fun A K hK hR => ?_)
  have hfr : 1 ≤ (rmc d 25 572).frames := by show 1 ≤ d; omega
  have hlo : 36 ≤ (rmc d 25 572).locals := by show 36 ≤ 36 * d; omega
  refine x_aload_n hK d_Sh_init_0 rfl rfl ?_
  refine x_objinit hK d_Sh_init_1 w_ml_Sh_3 hfr hlo (by simp) ?_
  refine x_aload_n hK d_Sh_init_4 rfl rfl ?_
  refine x_iconst (v := nI 2) hK d_Sh_init_5 (by decide) ?_
  refine x_newi hK d_Sh_init_6 (by omega) (by show _ ≤ 25; omega) (by show _ ≤ 572; omega) (fun q6 => ?_)
  refine x_put hK rfl 0 d_Sh_init_8 fp_Sh_9 rfl rfl rfl rfl ?_
  refine x_aload_n hK d_Sh_init_11 rfl rfl ?_
  refine x_iconst (v := nI 2) hK d_Sh_init_12 (by decide) ?_
  refine x_newi hK d_Sh_init_13 (by omega) (by show _ ≤ 25; omega) (by show _ ≤ 572; omega) (fun q13 => ?_)
  refine x_put hK rfl 0 d_Sh_init_15 fp_Sh_15 rfl rfl rfl rfl ?_
  refine x_aload_n hK d_Sh_init_18 rfl rfl ?_
  refine x_iconst (v := nI 2) hK d_Sh_init_19 (by decide) ?_
  refine x_newi hK d_Sh_init_20 (by omega) (by show _ ≤ 25; omega) (by show _ ≤ 572; omega) (fun q20 => ?_)
  refine x_put hK rfl 0 d_Sh_init_22 fp_Sh_18 rfl rfl rfl rfl ?_
  refine x_aload_n hK d_Sh_init_25 rfl rfl ?_
  refine x_iconst (v := nI 2) hK d_Sh_init_26 (by decide) ?_
  refine x_newi hK d_Sh_init_27 (by omega) (by show _ ≤ 25; omega) (by show _ ≤ 572; omega) (fun q27 => ?_)
  refine x_put hK rfl 0 d_Sh_init_29 fp_Sh_21 rfl rfl rfl rfl ?_
  refine x_aload_n hK d_Sh_init_32 rfl rfl ?_
  refine x_iconst (v := nI 1) hK d_Sh_init_33 (by decide) ?_
  refine x_put hK rfl 0 d_Sh_init_34 fp_Sh_24 rfl (by decide +kernel) rfl rfl ?_
  refine x_aload_n hK d_Sh_init_37 rfl rfl ?_
  refine x_iload_n hK d_Sh_init_38 rfl rfl ?_
  refine x_put hK rfl 0 d_Sh_init_39 fp_Sh_28 rfl rfl rfl rfl ?_
  refine x_aload_n hK d_Sh_init_42 rfl rfl ?_
  refine x_iload_n hK d_Sh_init_43 rfl rfl ?_
  refine x_newLk hK d_Sh_init_44 w_cl_Sh_32 (by omega) (by show _ ≤ 25; omega) (by show _ ≤ 572; omega) (fun q44 => ?_)
  refine x_put hK rfl 0 d_Sh_init_47 fp_Sh_34 rfl rfl rfl rfl ?_
  refine x_iconst (v := nI 0) hK d_Sh_init_50 (by decide) ?_
  refine x_istore hK d_Sh_init_51 rfl rfl ?_
  have hloop : ∀ (n i : Nat) (c : Nat → Nat → Nat), i + n = w → K 53 [.ref b, .int (nI h), .int (nI w), .int (nI ru), .int (nI i)] [] (SB cA w ru (pk6 b q6 q13 q20 q27 q44) (cut (fun j => c j 11) i) ++ LF cA c h i) (5 + 5 * i) (8 + w + 140 * i) := by
    intro n
    induction n with
    | zero =>
      intro i c hi
      refine x_iload hK d_Sh_init_53 rfl ?_
      refine x_iload_n hK d_Sh_init_55 rfl rfl ?_
      refine x_icmp_ge (tgt := 82) hK d_Sh_init_56 (by decide) (fun _ => ?_) (fun q => absurd (nI_le (by omega) (by omega)) q)
      have e : i = w := by omega
      subst e
      exact hR _ _ _ _ _ d_Sh_init_82 (by omega) (by omega) ⟨pk6 b q6 q13 q20 q27 q44, c, rfl, rfl⟩
    | succ n ih =>
      intro i c hi
      refine x_iload hK d_Sh_init_53 rfl ?_
      refine x_iload_n hK d_Sh_init_55 rfl rfl ?_
      refine x_icmp_ge (tgt := 82) hK d_Sh_init_56 (by decide) (fun q => absurd q (nI_ge (by omega) (by omega))) (fun _ => ?_)
      refine x_aload_n hK d_Sh_init_59 rfl rfl ?_
      refine x_get hK 0 d_Sh_init_60 fp_Sh_34 rfl rfl ?_
      refine x_iload hK d_Sh_init_63 rfl ?_
      refine x_new hK d_Sh_init_65 nw_Sh_32 (by show _ ≤ 25; omega) (by show _ ≤ 572; omega) (fun q65 => ?_)
      refine x_dup hK d_Sh_init_68 rfl ?_
      refine x_iload hK d_Sh_init_69 rfl ?_
      refine x_iload_n hK d_Sh_init_71 rfl rfl ?_
      refine x_ctor hK d_Sh_init_72 mi_Sh_38 (c_Lk_init (d := d - 1) (i := i) (h := h) (by omega)) ⟨by show d - 1 + 1 ≤ d; omega, by show 36 * (d - 1 + 1) ≤ 36 * d; omega⟩ rfl rfl rfl (by show _ ≤ 25; omega) (by show _ ≤ 572; omega) (fun X' hX' => ?_)
      obtain ⟨a, rfl, rfl⟩ := hX'
      refine x_astLk hK 5 _ d_Sh_init_75 rfl lb_at (ix_nI (by omega)) (by omega) ?_
      refine x_iinc hK d_Sh_init_76 rfl (nI_add i 1) rfl ?_
      refine x_goto (tgt := 53) hK d_Sh_init_79 (by decide) ?_
      exact kto sb_step (by omega) (by omega) rfl (ih (i + 1) (fun k => if k = i then a else c k) (by omega))
  refine kto ?_ rfl (by omega) rfl (hloop w 0 (fun _ _ => 0) (by omega))
  rw [cut_0]
  rfl
def GB (cA : Nat → ClassId) (w sl : Nat) (z : Nat → Nat) (f : Nat → Option Nat) (v3 : Value) : va_W := [(z 0, .inr (3, [.int (nI sl), .ref (z 1), .ref (z 2), v3, .int 0, .int 0, .int 0, .int 0, .int 0])), (z 1, .inl (cA 0, w, .inl (fun _ => 0))), (z 2, .inl (cA 2, 3, rfa f))]
def HF (cA : Nat → ClassId) (w ru : Nat) (a : Nat → Nat → Nat) (c : Nat → Nat → Nat → Nat) (t : Nat) : va_W := (List.range t).flatMap (fun h => SH cA w ru h (a h) (c h))
def GH (cA : Nat → ClassId) (w sl ru : Nat) (z : Nat → Nat) (a : Nat → Nat → Nat) (c : Nat → Nat → Nat → Nat) : va_W := (GB cA w sl z (cut (fun j => a j 5) 3) (.ref (z 3)) ++ HF cA w ru a c 3) ++ NB cA z
def pk3 (b q1 q2 : Nat) : Nat → Nat := fun k => if k = 0 then b else if k = 1 then q1 else q2
theorem sh_at {X1 : va_W} {w ru h : Nat} {a : Nat → Nat} {c : Nat → Nat → Nat} : (X1 ++ SH cA w ru h a c)[X1.length]? = some (a 5, .inr (2, [.int (nI ru), .ref (a 6), .ref (a 7), .ref (a 8), .ref (a 9), .ref (a 10), .int 0, .int 0, .int (nI 1)])) := by
  simp [SH, SB]
theorem gb_step {w sl ru i : Nat} {z a1 : Nat → Nat} {a : Nat → Nat → Nat} {c1 : Nat → Nat → Nat} {c : Nat → Nat → Nat → Nat} {v3 : Value} : ((GB cA w sl z (cut (fun j => a j 5) i) v3 ++ HF cA w ru a c i) ++ SH cA w ru i a1 c1).set 2 (z 2, .inl (cA 2, 3, rfa (va_up (cut (fun j => a j 5) i) i (some (a1 5))))) = GB cA w sl z (cut (fun j => (fun k => if k = i then a1 else a k) j 5) (i + 1)) v3 ++ HF cA w ru (fun k => if k = i then a1 else a k) (fun k => if k = i then c1 else c k) (i + 1) := by
  rw [cut_up (fun j => a j 5) (fun j => (fun k => if k = i then a1 else a k) j 5) i (a1 5) (fun j hj => by simp [Nat.ne_of_lt hj]) (by simp)]
  unfold HF
  rw [fm_succ (f := fun h => SH cA w ru h (a h) (c h)) (g := fun h => SH cA w ru h ((fun k => if k = i then a1 else a k) h) ((fun k => if k = i then c1 else c k) h)) (fun j hj => by simp [Nat.ne_of_lt hj])]
  simp [GB]
set_option maxHeartbeats 2000000 in
theorem c_Gs_init {d b w sl ru : Nat} {u k r : Int32} (hd : 3 ≤ d) (hw : w ≤ 4) (hu : Nwk u w) (hk : Nzk 3 k sl) (hr : Nzk 2 r ru) : CtC l D cA y_Gs_init d 82 1778 [.ref b, .int u, .int k, .int r] W0 [(b, .inr (3, fs_Gs))] (fun X => ∃ (z : Nat → Nat) (a : Nat → Nat → Nat) (c : Nat → Nat → Nat → Nat), z 0 = b ∧ X = GH cA w sl ru z a c) := by
  refine ofC (y := y_Gs_init) w_cd_Gs_init (by decide) (by decide +kernel) rfl (by simp) (by simp [Value.category]) (fun A K hK hR => ?_)
  have hfr : 1 ≤ (rmc d 82 1778).frames := by show 1 ≤ d; omega
  have hlo : 36 ≤ (rmc d 82 1778).locals := by show 36 ≤ 36 * d; omega
  refine x_aload_n hK d_Gs_init_0 rfl rfl ?_
  refine x_objinit hK d_Gs_init_1 w_ml_Gs_1 hfr hlo (by simp) ?_
  refine x_nw hK rfl hu rfl d_Gs_init_4 d_Gs_init_5 d_Gs_init_6 d_Gs_init_9 d_Gs_init_10 d_Gs_init_11 d_Gs_init_14 d_Gs_init_15 d_Gs_init_18 ?_
  refine x_istore hK d_Gs_init_19 rfl rfl ?_
  refine x_nz hK (n := 2) (by decide) rfl hr rfl d_Gs_init_21 d_Gs_init_22 d_Gs_init_25 d_Gs_init_26 d_Gs_init_27 d_Gs_init_30 d_Gs_init_31 d_Gs_init_34 ?_
  refine x_istore hK d_Gs_init_35 rfl rfl ?_
  refine x_aload_n hK d_Gs_init_37 rfl rfl ?_
  refine x_nz hK (n := 3) (by decide) rfl hk rfl d_Gs_init_38 d_Gs_init_39 d_Gs_init_42 d_Gs_init_43 d_Gs_init_44 d_Gs_init_47 d_Gs_init_48 d_Gs_init_51 ?_
  refine x_put hK rfl 0 d_Gs_init_52 fp_Gs_7 rfl rfl rfl rfl ?_
  refine x_aload_n hK d_Gs_init_55 rfl rfl ?_
  refine x_iload hK d_Gs_init_56 rfl ?_
  refine x_newi hK d_Gs_init_58 (by omega) (by show _ ≤ 82; omega) (by show _ ≤ 1778; omega) (fun q58 => ?_)
  refine x_put hK rfl 0 d_Gs_init_60 fp_Gs_13 rfl rfl rfl rfl ?_
  refine x_aload_n hK d_Gs_init_63 rfl rfl ?_
  refine x_iconst (v := nI 3) hK d_Gs_init_64 (by decide) ?_
  refine x_newSh (n := 3) hK d_Gs_init_65 w_cl_Gs_17 (by omega) (by show _ ≤ 82; omega) (by show _ ≤ 1778; omega) (fun q65 => ?_)
  refine x_put hK rfl 0 d_Gs_init_68 fp_Gs_19 rfl rfl rfl rfl ?_
  refine x_iconst (v := nI 0) hK d_Gs_init_71 (by decide) ?_
  refine x_istore hK d_Gs_init_72 rfl rfl ?_
  have hloop : ∀ (n i : Nat) (a : Nat → Nat → Nat) (c : Nat → Nat → Nat → Nat), i + n = 3 → K 74 [.ref b, .int u, .int k, .int r, .int (nI w), .int (nI ru), .int (nI i)] [] (GB cA w sl (pk3 b q58 q65) (cut (fun j => a j 5) i) .null ++ HF cA w ru a c i) (2 + 26 * i) (w + 3 + 581 * i) := by
    intro n
    induction n with
    | zero =>
      intro i a c hi
      refine x_iload hK d_Gs_init_74 rfl ?_
      refine x_iconst (v := nI 3) hK d_Gs_init_76 (by decide) ?_
      refine x_icmp_ge (tgt := 106) hK d_Gs_init_77 (by decide) (fun _ => ?_) (fun q => absurd (nI_le (by omega) (by omega)) q)
      have e : i = 3 := by omega
      subst e
      refine x_aload_n hK d_Gs_init_106 rfl rfl ?_
      refine x_new hK d_Gs_init_107 nw_Gs_26 (by show _ ≤ 82; omega) (by show _ ≤ 1778; omega) (fun q107 => ?_)
      refine x_dup hK d_Gs_init_110 rfl ?_
      refine x_ctor hK d_Gs_init_111 mi_Gs_28 (c_Nt_init (d := d - 1) (by omega)) ⟨by show d - 1 + 1 ≤ d; omega, by show 36 * (d - 1 + 1) ≤ 36 * d; omega⟩ rfl rfl rfl (by show _ ≤ 82; omega) (by show _ ≤ 1778; omega) (fun X' hX' => ?_)
      obtain ⟨zn, rfl, rfl⟩ := hX'
      refine x_put hK rfl 0 d_Gs_init_114 fp_Gs_29 rfl rfl rfl rfl ?_
      exact hR _ _ _ _ _ d_Gs_init_117 (by omega) (by omega) ⟨fun k => if k < 3 then pk3 b q58 q65 k else zn k, a, c, rfl, rfl⟩
    | succ n ih =>
      intro i a c hi
      refine x_iload hK d_Gs_init_74 rfl ?_
      refine x_iconst (v := nI 3) hK d_Gs_init_76 (by decide) ?_
      refine x_icmp_ge (tgt := 106) hK d_Gs_init_77 (by decide) (fun q => absurd q (nI_ge (by omega) (by omega))) (fun _ => ?_)
      refine x_aload_n hK d_Gs_init_80 rfl rfl ?_
      refine x_get hK 0 d_Gs_init_81 fp_Gs_19 rfl rfl ?_
      refine x_iload hK d_Gs_init_84 rfl ?_
      refine x_new hK d_Gs_init_86 nw_Gs_17 (by show _ ≤ 82; omega) (by show _ ≤ 1778; omega) (fun q86 => ?_)
      refine x_dup hK d_Gs_init_89 rfl ?_
      refine x_iload hK d_Gs_init_90 rfl ?_
      refine x_iload hK d_Gs_init_92 rfl ?_
      refine x_iload hK d_Gs_init_94 rfl ?_
      refine x_ctor hK d_Gs_init_96 mi_Gs_23 (c_Sh_init (d := d - 1) (h := i) (w := w) (ru := ru) (by omega) hw) ⟨by show d - 1 + 1 ≤ d; omega, by show 36 * (d - 1 + 1) ≤ 36 * d; omega⟩ rfl rfl rfl (by show _ ≤ 82; omega) (by show _ ≤ 1778; omega) (fun X' hX' => ?_)
      obtain ⟨a1, c1, rfl, rfl⟩ := hX'
      refine x_astSh hK 2 _ d_Gs_init_99 rfl sh_at (ix_nI (by omega)) (by omega) ?_
      refine x_iinc hK d_Gs_init_100 rfl (nI_add i 1) rfl ?_
      refine x_goto (tgt := 74) hK d_Gs_init_103 (by decide) ?_
      exact kto gb_step (by omega) (by omega) rfl (ih (i + 1) (fun k => if k = i then a1 else a k) (fun k => if k = i then c1 else c k) (by omega))
  refine kto ?_ rfl (by omega) rfl (hloop 3 0 (fun _ _ => 0) (fun _ _ _ => 0) (by omega))
  rw [cut_0]
  rfl
end KC
