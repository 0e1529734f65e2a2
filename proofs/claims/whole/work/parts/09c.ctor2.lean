section KC
variable {l : Launch} {D : va_G} {cA : Nat → ClassId} {W0 : va_W}
def MB (cA : Nat → ClassId) (w sl ru : Nat) (m : Nat → Nat) : va_W := [(m 16, .inr (4, [.int (nI w), .int (nI sl), .int (nI ru), .int 0, .ref (m 17), .ref (m 18), .ref (m 19), .ref (m 20), .ref (m 21), .ref (m 22), .ref (m 23), .ref (m 24), .ref (m 25), .ref (m 26), .int 0, .ref (m 27), .ref (m 28), .ref (m 29), .int 0, .int 0])), (m 17, .inl (cA 0, 4, .inl (fun _ => 0))), (m 18, .inl (cA 0, 12, .inl (fun _ => 0))), (m 19, .inl (cA 0, 12, .inl (fun _ => 0))), (m 20, .inl (cA 0, 12, .inl (fun _ => 0))), (m 21, .inl (cA 0, 6144, .inl (fun _ => 0))), (m 22, .inl (cA 1, 6144, .inl (fun _ => 0))), (m 23, .inl (cA 0, 384, .inl (fun _ => 0))), (m 24, .inl (cA 1, 3, .inl (fun _ => 0))), (m 25, .inl (cA 0, 3, .inl (fun _ => 0))), (m 26, .inl (cA 0, 6, .inl (fun _ => 0))), (m 27, .inl (cA 1, 24, .inl (fun _ => 0))), (m 28, .inl (cA 0, 24, .inl (fun _ => 0))), (m 29, .inl (cA 0, 24, .inl (fun _ => 0)))]
def pkm (b q6 q14 q22 q30 q39 q48 q57 q64 q71 q79 q87 q95 q103 : Nat) : Nat → Nat := fun k => if k = 16 then b else if k = 17 then q6 else if k = 18 then q14 else if k = 19 then q22 else if k = 20 then q30 else if k = 21 then q39 else if k = 22 then q48 else if k = 23 then q57 else if k = 24 then q64 else if k = 25 then q71 else if k = 26 then q79 else if k = 27 then q87 else if k = 28 then q95 else q103
set_option maxHeartbeats 4000000 in
theorem c_Md_init {d b w sl ru : Nat} {u k r : Int32} (hd : 1 ≤ d) (hu : Nwk u w) (hk : Nzk 3 k sl) (hr : Nzk 2 r ru) : CtC l D cA y_Md_init d 13 13101 [.ref b, .int u, .int k, .int r] W0 [(b, .inr (4, fs_Md))] (fun X => ∃ m : Nat → Nat, m 16 = b ∧ X = MB cA w sl ru m) := by
  refine ofC (y := y_Md_init) w_cd_Md_init (by decide) (by decide +kernel) rfl (by simp) (by simp [Value.category]) (fun A K hK hR => ?_)
  have hfr : 1 ≤ (rmc d 13 13101).frames := by show 1 ≤ d; omega
  have hlo : 36 ≤ (rmc d 13 13101).locals := by show 36 ≤ 36 * d; omega
  refine x_aload_n hK d_Md_init_0 rfl rfl ?_
  refine x_objinit hK d_Md_init_1 w_ml_Md_1 hfr hlo (by simp) ?_
  refine x_aload_n hK d_Md_init_4 rfl rfl ?_
  refine x_iconst (v := nI 4) hK d_Md_init_5 (by decide) ?_
  refine x_newi hK d_Md_init_6 (by omega) (by show _ ≤ 13; omega) (by show _ ≤ 13101; omega) (fun q6 => ?_)
  refine x_put hK rfl 0 d_Md_init_8 fp_Md_7 rfl rfl rfl rfl ?_
  refine x_aload_n hK d_Md_init_11 rfl rfl ?_
  refine kto (X' := [(b, .inr (4, [.int 0, .int 0, .int 0, .int 0, .ref q6, .null, .null, .null, .null, .null, .null, .null, .null, .null, .int 0, .null, .null, .null, .int 0, .int 0])), (q6, .inl (cA 0, 4, .inl (fun _ => 0)))]) (c' := 1) (s' := 4) rfl rfl rfl rfl ?_
  refine x_bipush (v := nI 12) hK d_Md_init_12 (by decide) ?_
  refine x_newi hK d_Md_init_14 (by omega) (by show _ ≤ 13; omega) (by show _ ≤ 13101; omega) (fun q14 => ?_)
  refine x_put hK rfl 0 d_Md_init_16 fp_Md_13 rfl rfl rfl rfl ?_
  refine x_aload_n hK d_Md_init_19 rfl rfl ?_
  refine kto (X' := [(b, .inr (4, [.int 0, .int 0, .int 0, .int 0, .ref q6, .ref q14, .null, .null, .null, .null, .null, .null, .null, .null, .int 0, .null, .null, .null, .int 0, .int 0])), (q6, .inl (cA 0, 4, .inl (fun _ => 0))), (q14, .inl (cA 0, 12, .inl (fun _ => 0)))]) (c' := 2) (s' := 16) rfl rfl rfl rfl ?_
  refine x_bipush (v := nI 12) hK d_Md_init_20 (by decide) ?_
  refine x_newi hK d_Md_init_22 (by omega) (by show _ ≤ 13; omega) (by show _ ≤ 13101; omega) (fun q22 => ?_)
  refine x_put hK rfl 0 d_Md_init_24 fp_Md_16 rfl rfl rfl rfl ?_
  refine x_aload_n hK d_Md_init_27 rfl rfl ?_
  refine kto (X' := [(b, .inr (4, [.int 0, .int 0, .int 0, .int 0, .ref q6, .ref q14, .ref q22, .null, .null, .null, .null, .null, .null, .null, .int 0, .null, .null, .null, .int 0, .int 0])), (q6, .inl (cA 0, 4, .inl (fun _ => 0))), (q14, .inl (cA 0, 12, .inl (fun _ => 0))), (q22, .inl (cA 0, 12, .inl (fun _ => 0)))]) (c' := 3) (s' := 28) rfl rfl rfl rfl ?_
  refine x_bipush (v := nI 12) hK d_Md_init_28 (by decide) ?_
  refine x_newi hK d_Md_init_30 (by omega) (by show _ ≤ 13; omega) (by show _ ≤ 13101; omega) (fun q30 => ?_)
  refine x_put hK rfl 0 d_Md_init_32 fp_Md_19 rfl rfl rfl rfl ?_
  refine x_aload_n hK d_Md_init_35 rfl rfl ?_
  refine kto (X' := [(b, .inr (4, [.int 0, .int 0, .int 0, .int 0, .ref q6, .ref q14, .ref q22, .ref q30, .null, .null, .null, .null, .null, .null, .int 0, .null, .null, .null, .int 0, .int 0])), (q6, .inl (cA 0, 4, .inl (fun _ => 0))), (q14, .inl (cA 0, 12, .inl (fun _ => 0))), (q22, .inl (cA 0, 12, .inl (fun _ => 0))), (q30, .inl (cA 0, 12, .inl (fun _ => 0)))]) (c' := 4) (s' := 40) rfl rfl rfl rfl ?_
  refine x_sipush (v := nI 6144) hK d_Md_init_36 (by decide) ?_
  refine x_newi hK d_Md_init_39 (by omega) (by show _ ≤ 13; omega) (by show _ ≤ 13101; omega) (fun q39 => ?_)
  refine x_put hK rfl 0 d_Md_init_41 fp_Md_22 rfl rfl rfl rfl ?_
  refine x_aload_n hK d_Md_init_44 rfl rfl ?_
  refine kto (X' := [(b, .inr (4, [.int 0, .int 0, .int 0, .int 0, .ref q6, .ref q14, .ref q22, .ref q30, .ref q39, .null, .null, .null, .null, .null, .int 0, .null, .null, .null, .int 0, .int 0])), (q6, .inl (cA 0, 4, .inl (fun _ => 0))), (q14, .inl (cA 0, 12, .inl (fun _ => 0))), (q22, .inl (cA 0, 12, .inl (fun _ => 0))), (q30, .inl (cA 0, 12, .inl (fun _ => 0))), (q39, .inl (cA 0, 6144, .inl (fun _ => 0)))]) (c' := 5) (s' := 6184) rfl rfl rfl rfl ?_
  refine x_sipush (v := nI 6144) hK d_Md_init_45 (by decide) ?_
  refine x_newz hK d_Md_init_48 (by omega) (by show _ ≤ 13; omega) (by show _ ≤ 13101; omega) (fun q48 => ?_)
  refine x_put hK rfl 0 d_Md_init_50 fp_Md_25 rfl rfl rfl rfl ?_
  refine x_aload_n hK d_Md_init_53 rfl rfl ?_
  refine kto (X' := [(b, .inr (4, [.int 0, .int 0, .int 0, .int 0, .ref q6, .ref q14, .ref q22, .ref q30, .ref q39, .ref q48, .null, .null, .null, .null, .int 0, .null, .null, .null, .int 0, .int 0])), (q6, .inl (cA 0, 4, .inl (fun _ => 0))), (q14, .inl (cA 0, 12, .inl (fun _ => 0))), (q22, .inl (cA 0, 12, .inl (fun _ => 0))), (q30, .inl (cA 0, 12, .inl (fun _ => 0))), (q39, .inl (cA 0, 6144, .inl (fun _ => 0))), (q48, .inl (cA 1, 6144, .inl (fun _ => 0)))]) (c' := 6) (s' := 12328) rfl rfl rfl rfl ?_
  refine x_sipush (v := nI 384) hK d_Md_init_54 (by decide) ?_
  refine x_newi hK d_Md_init_57 (by omega) (by show _ ≤ 13; omega) (by show _ ≤ 13101; omega) (fun q57 => ?_)
  refine x_put hK rfl 0 d_Md_init_59 fp_Md_29 rfl rfl rfl rfl ?_
  refine x_aload_n hK d_Md_init_62 rfl rfl ?_
  refine kto (X' := [(b, .inr (4, [.int 0, .int 0, .int 0, .int 0, .ref q6, .ref q14, .ref q22, .ref q30, .ref q39, .ref q48, .ref q57, .null, .null, .null, .int 0, .null, .null, .null, .int 0, .int 0])), (q6, .inl (cA 0, 4, .inl (fun _ => 0))), (q14, .inl (cA 0, 12, .inl (fun _ => 0))), (q22, .inl (cA 0, 12, .inl (fun _ => 0))), (q30, .inl (cA 0, 12, .inl (fun _ => 0))), (q39, .inl (cA 0, 6144, .inl (fun _ => 0))), (q48, .inl (cA 1, 6144, .inl (fun _ => 0))), (q57, .inl (cA 0, 384, .inl (fun _ => 0)))]) (c' := 7) (s' := 12712) rfl rfl rfl rfl ?_
  refine x_iconst (v := nI 3) hK d_Md_init_63 (by decide) ?_
  refine x_newz hK d_Md_init_64 (by omega) (by show _ ≤ 13; omega) (by show _ ≤ 13101; omega) (fun q64 => ?_)
  refine x_put hK rfl 0 d_Md_init_66 fp_Md_32 rfl rfl rfl rfl ?_
  refine x_aload_n hK d_Md_init_69 rfl rfl ?_
  refine kto (X' := [(b, .inr (4, [.int 0, .int 0, .int 0, .int 0, .ref q6, .ref q14, .ref q22, .ref q30, .ref q39, .ref q48, .ref q57, .ref q64, .null, .null, .int 0, .null, .null, .null, .int 0, .int 0])), (q6, .inl (cA 0, 4, .inl (fun _ => 0))), (q14, .inl (cA 0, 12, .inl (fun _ => 0))), (q22, .inl (cA 0, 12, .inl (fun _ => 0))), (q30, .inl (cA 0, 12, .inl (fun _ => 0))), (q39, .inl (cA 0, 6144, .inl (fun _ => 0))), (q48, .inl (cA 1, 6144, .inl (fun _ => 0))), (q57, .inl (cA 0, 384, .inl (fun _ => 0))), (q64, .inl (cA 1, 3, .inl (fun _ => 0)))]) (c' := 8) (s' := 12715) rfl rfl rfl rfl ?_
  refine x_iconst (v := nI 3) hK d_Md_init_70 (by decide) ?_
  refine x_newi hK d_Md_init_71 (by omega) (by show _ ≤ 13; omega) (by show _ ≤ 13101; omega) (fun q71 => ?_)
  refine x_put hK rfl 0 d_Md_init_73 fp_Md_35 rfl rfl rfl rfl ?_
  refine x_aload_n hK d_Md_init_76 rfl rfl ?_
  refine kto (X' := [(b, .inr (4, [.int 0, .int 0, .int 0, .int 0, .ref q6, .ref q14, .ref q22, .ref q30, .ref q39, .ref q48, .ref q57, .ref q64, .ref q71, .null, .int 0, .null, .null, .null, .int 0, .int 0])), (q6, .inl (cA 0, 4, .inl (fun _ => 0))), (q14, .inl (cA 0, 12, .inl (fun _ => 0))), (q22, .inl (cA 0, 12, .inl (fun _ => 0))), (q30, .inl (cA 0, 12, .inl (fun _ => 0))), (q39, .inl (cA 0, 6144, .inl (fun _ => 0))), (q48, .inl (cA 1, 6144, .inl (fun _ => 0))), (q57, .inl (cA 0, 384, .inl (fun _ => 0))), (q64, .inl (cA 1, 3, .inl (fun _ => 0))), (q71, .inl (cA 0, 3, .inl (fun _ => 0)))]) (c' := 9) (s' := 12718) rfl rfl rfl rfl ?_
  refine x_bipush (v := nI 6) hK d_Md_init_77 (by decide) ?_
  refine x_newi hK d_Md_init_79 (by omega) (by show _ ≤ 13; omega) (by show _ ≤ 13101; omega) (fun q79 => ?_)
  refine x_put hK rfl 0 d_Md_init_81 fp_Md_38 rfl rfl rfl rfl ?_
  refine x_aload_n hK d_Md_init_84 rfl rfl ?_
  refine kto (X' := [(b, .inr (4, [.int 0, .int 0, .int 0, .int 0, .ref q6, .ref q14, .ref q22, .ref q30, .ref q39, .ref q48, .ref q57, .ref q64, .ref q71, .ref q79, .int 0, .null, .null, .null, .int 0, .int 0])), (q6, .inl (cA 0, 4, .inl (fun _ => 0))), (q14, .inl (cA 0, 12, .inl (fun _ => 0))), (q22, .inl (cA 0, 12, .inl (fun _ => 0))), (q30, .inl (cA 0, 12, .inl (fun _ => 0))), (q39, .inl (cA 0, 6144, .inl (fun _ => 0))), (q48, .inl (cA 1, 6144, .inl (fun _ => 0))), (q57, .inl (cA 0, 384, .inl (fun _ => 0))), (q64, .inl (cA 1, 3, .inl (fun _ => 0))), (q71, .inl (cA 0, 3, .inl (fun _ => 0))), (q79, .inl (cA 0, 6, .inl (fun _ => 0)))]) (c' := 10) (s' := 12724) rfl rfl rfl rfl ?_
  refine x_bipush (v := nI 24) hK d_Md_init_85 (by decide) ?_
  refine x_newz hK d_Md_init_87 (by omega) (by show _ ≤ 13; omega) (by show _ ≤ 13101; omega) (fun q87 => ?_)
  refine x_put hK rfl 0 d_Md_init_89 fp_Md_41 rfl rfl rfl rfl ?_
  refine x_aload_n hK d_Md_init_92 rfl rfl ?_
  refine kto (X' := [(b, .inr (4, [.int 0, .int 0, .int 0, .int 0, .ref q6, .ref q14, .ref q22, .ref q30, .ref q39, .ref q48, .ref q57, .ref q64, .ref q71, .ref q79, .int 0, .ref q87, .null, .null, .int 0, .int 0])), (q6, .inl (cA 0, 4, .inl (fun _ => 0))), (q14, .inl (cA 0, 12, .inl (fun _ => 0))), (q22, .inl (cA 0, 12, .inl (fun _ => 0))), (q30, .inl (cA 0, 12, .inl (fun _ => 0))), (q39, .inl (cA 0, 6144, .inl (fun _ => 0))), (q48, .inl (cA 1, 6144, .inl (fun _ => 0))), (q57, .inl (cA 0, 384, .inl (fun _ => 0))), (q64, .inl (cA 1, 3, .inl (fun _ => 0))), (q71, .inl (cA 0, 3, .inl (fun _ => 0))), (q79, .inl (cA 0, 6, .inl (fun _ => 0))), (q87, .inl (cA 1, 24, .inl (fun _ => 0)))]) (c' := 11) (s' := 12748) rfl rfl rfl rfl ?_
  refine x_bipush (v := nI 24) hK d_Md_init_93 (by decide) ?_
  refine x_newi hK d_Md_init_95 (by omega) (by show _ ≤ 13; omega) (by show _ ≤ 13101; omega) (fun q95 => ?_)
  refine x_put hK rfl 0 d_Md_init_97 fp_Md_44 rfl rfl rfl rfl ?_
  refine x_aload_n hK d_Md_init_100 rfl rfl ?_
  refine kto (X' := [(b, .inr (4, [.int 0, .int 0, .int 0, .int 0, .ref q6, .ref q14, .ref q22, .ref q30, .ref q39, .ref q48, .ref q57, .ref q64, .ref q71, .ref q79, .int 0, .ref q87, .ref q95, .null, .int 0, .int 0])), (q6, .inl (cA 0, 4, .inl (fun _ => 0))), (q14, .inl (cA 0, 12, .inl (fun _ => 0))), (q22, .inl (cA 0, 12, .inl (fun _ => 0))), (q30, .inl (cA 0, 12, .inl (fun _ => 0))), (q39, .inl (cA 0, 6144, .inl (fun _ => 0))), (q48, .inl (cA 1, 6144, .inl (fun _ => 0))), (q57, .inl (cA 0, 384, .inl (fun _ => 0))), (q64, .inl (cA 1, 3, .inl (fun _ => 0))), (q71, .inl (cA 0, 3, .inl (fun _ => 0))), (q79, .inl (cA 0, 6, .inl (fun _ => 0))), (q87, .inl (cA 1, 24, .inl (fun _ => 0))), (q95, .inl (cA 0, 24, .inl (fun _ => 0)))]) (c' := 12) (s' := 12772) rfl rfl rfl rfl ?_
  refine x_bipush (v := nI 24) hK d_Md_init_101 (by decide) ?_
  refine x_newi hK d_Md_init_103 (by omega) (by show _ ≤ 13; omega) (by show _ ≤ 13101; omega) (fun q103 => ?_)
  refine x_put hK rfl 0 d_Md_init_105 fp_Md_47 rfl rfl rfl rfl ?_
  refine x_aload_n hK d_Md_init_108 rfl rfl ?_
  refine kto (X' := [(b, .inr (4, [.int 0, .int 0, .int 0, .int 0, .ref q6, .ref q14, .ref q22, .ref q30, .ref q39, .ref q48, .ref q57, .ref q64, .ref q71, .ref q79, .int 0, .ref q87, .ref q95, .ref q103, .int 0, .int 0])), (q6, .inl (cA 0, 4, .inl (fun _ => 0))), (q14, .inl (cA 0, 12, .inl (fun _ => 0))), (q22, .inl (cA 0, 12, .inl (fun _ => 0))), (q30, .inl (cA 0, 12, .inl (fun _ => 0))), (q39, .inl (cA 0, 6144, .inl (fun _ => 0))), (q48, .inl (cA 1, 6144, .inl (fun _ => 0))), (q57, .inl (cA 0, 384, .inl (fun _ => 0))), (q64, .inl (cA 1, 3, .inl (fun _ => 0))), (q71, .inl (cA 0, 3, .inl (fun _ => 0))), (q79, .inl (cA 0, 6, .inl (fun _ => 0))), (q87, .inl (cA 1, 24, .inl (fun _ => 0))), (q95, .inl (cA 0, 24, .inl (fun _ => 0))), (q103, .inl (cA 0, 24, .inl (fun _ => 0)))]) (c' := 13) (s' := 12796) rfl rfl rfl rfl ?_
  refine x_nw hK rfl hu rfl d_Md_init_109 d_Md_init_110 d_Md_init_111 d_Md_init_114 d_Md_init_115 d_Md_init_116 d_Md_init_119 d_Md_init_120 d_Md_init_123 ?_
  refine x_put hK rfl 0 d_Md_init_124 fp_Md_50 rfl rfl rfl rfl ?_
  refine kto (X' := [(b, .inr (4, [.int (nI w), .int 0, .int 0, .int 0, .ref q6, .ref q14, .ref q22, .ref q30, .ref q39, .ref q48, .ref q57, .ref q64, .ref q71, .ref q79, .int 0, .ref q87, .ref q95, .ref q103, .int 0, .int 0])), (q6, .inl (cA 0, 4, .inl (fun _ => 0))), (q14, .inl (cA 0, 12, .inl (fun _ => 0))), (q22, .inl (cA 0, 12, .inl (fun _ => 0))), (q30, .inl (cA 0, 12, .inl (fun _ => 0))), (q39, .inl (cA 0, 6144, .inl (fun _ => 0))), (q48, .inl (cA 1, 6144, .inl (fun _ => 0))), (q57, .inl (cA 0, 384, .inl (fun _ => 0))), (q64, .inl (cA 1, 3, .inl (fun _ => 0))), (q71, .inl (cA 0, 3, .inl (fun _ => 0))), (q79, .inl (cA 0, 6, .inl (fun _ => 0))), (q87, .inl (cA 1, 24, .inl (fun _ => 0))), (q95, .inl (cA 0, 24, .inl (fun _ => 0))), (q103, .inl (cA 0, 24, .inl (fun _ => 0)))]) (c' := 13) (s' := 12796) rfl rfl rfl rfl ?_
  refine x_aload_n hK d_Md_init_127 rfl rfl ?_
  refine x_nz hK (n := 3) (by decide) rfl hk rfl d_Md_init_128 d_Md_init_129 d_Md_init_132 d_Md_init_133 d_Md_init_134 d_Md_init_137 d_Md_init_138 d_Md_init_141 ?_
  refine x_put hK rfl 0 d_Md_init_142 fp_Md_54 rfl rfl rfl rfl ?_
  refine kto (X' := [(b, .inr (4, [.int (nI w), .int (nI sl), .int 0, .int 0, .ref q6, .ref q14, .ref q22, .ref q30, .ref q39, .ref q48, .ref q57, .ref q64, .ref q71, .ref q79, .int 0, .ref q87, .ref q95, .ref q103, .int 0, .int 0])), (q6, .inl (cA 0, 4, .inl (fun _ => 0))), (q14, .inl (cA 0, 12, .inl (fun _ => 0))), (q22, .inl (cA 0, 12, .inl (fun _ => 0))), (q30, .inl (cA 0, 12, .inl (fun _ => 0))), (q39, .inl (cA 0, 6144, .inl (fun _ => 0))), (q48, .inl (cA 1, 6144, .inl (fun _ => 0))), (q57, .inl (cA 0, 384, .inl (fun _ => 0))), (q64, .inl (cA 1, 3, .inl (fun _ => 0))), (q71, .inl (cA 0, 3, .inl (fun _ => 0))), (q79, .inl (cA 0, 6, .inl (fun _ => 0))), (q87, .inl (cA 1, 24, .inl (fun _ => 0))), (q95, .inl (cA 0, 24, .inl (fun _ => 0))), (q103, .inl (cA 0, 24, .inl (fun _ => 0)))]) (c' := 13) (s' := 12796) rfl rfl rfl rfl ?_
  refine x_aload_n hK d_Md_init_145 rfl rfl ?_
  refine x_nz hK (n := 2) (by decide) rfl hr rfl d_Md_init_146 d_Md_init_147 d_Md_init_150 d_Md_init_151 d_Md_init_152 d_Md_init_155 d_Md_init_156 d_Md_init_159 ?_
  refine x_put hK rfl 0 d_Md_init_160 fp_Md_57 rfl rfl rfl rfl ?_
  refine kto (X' := [(b, .inr (4, [.int (nI w), .int (nI sl), .int (nI ru), .int 0, .ref q6, .ref q14, .ref q22, .ref q30, .ref q39, .ref q48, .ref q57, .ref q64, .ref q71, .ref q79, .int 0, .ref q87, .ref q95, .ref q103, .int 0, .int 0])), (q6, .inl (cA 0, 4, .inl (fun _ => 0))), (q14, .inl (cA 0, 12, .inl (fun _ => 0))), (q22, .inl (cA 0, 12, .inl (fun _ => 0))), (q30, .inl (cA 0, 12, .inl (fun _ => 0))), (q39, .inl (cA 0, 6144, .inl (fun _ => 0))), (q48, .inl (cA 1, 6144, .inl (fun _ => 0))), (q57, .inl (cA 0, 384, .inl (fun _ => 0))), (q64, .inl (cA 1, 3, .inl (fun _ => 0))), (q71, .inl (cA 0, 3, .inl (fun _ => 0))), (q79, .inl (cA 0, 6, .inl (fun _ => 0))), (q87, .inl (cA 1, 24, .inl (fun _ => 0))), (q95, .inl (cA 0, 24, .inl (fun _ => 0))), (q103, .inl (cA 0, 24, .inl (fun _ => 0)))]) (c' := 13) (s' := 12796) rfl rfl rfl rfl ?_
  exact hR _ _ _ _ _ d_Md_init_163 (by decide) (by decide) ⟨pkm b q6 q14 q22 q30 q39 q48 q57 q64 q71 q79 q87 q95 q103, rfl, rfl⟩
end KC
