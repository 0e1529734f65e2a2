/-! GradientShards: the answers, as pure functions of the state and of any ints; arrive and deliver -/
abbrev PC (w sl ru : Nat) (q : Sp × Int32) (σ : Sg) : Option Value → Sg → Prop := fun r τ => r = some (.int q.2) ∧ CP w sl ru q.1 τ ∧ ∀ k, 16 ≤ k → τ k = σ k
def arvR (s : Sp) (x n : Nat) : Sp × Int32 :=
  if s.1 7 (x % 3) 0 = 1 then (s, nI 3) else if s.1 5 x n = 1 then (snd (ua s.1 9 3 0 (s.1 9 3 0 + 1), s.2) (cod 1 x (trn s.1 x)), nI 2)
  else (snd (ua s.1 5 x n 1, s.2) (cod 1 x (trn (ua s.1 5 x n 1) x)), nI 1)
def dlvR (s : Sp) (i : Int32) : Sp × Int32 := if i < 0 ∨ nI s.2.length ≤ i then (s, -1) else (dlv s i.toNatClampNeg, nI (dlvN s i.toNatClampNeg))
section Gs2
variable {l : Launch} {g : Gc} {σ : Sg} {sl ru N : Nat} {s : Sp}
theorem c_Gs_arrive (hg : Gok g) (hC : CP g.2.1 sl ru s σ) (hA : AI g.2.1 N s) (hru : ru ≤ 2) {v0 h n : Nat} (hv0 : v0 < g.2.1) (hh : h < 3) (hn : n < s.1 1 (3 * v0 + h) 0) : Ct l g y_Gs_arrive 4 [.ref (g.1 0 0), .ref (g.1 5 h), .ref (g.1 11 (3 * v0 + h)), .int (nI n)] σ (PC g.2.1 sl ru (arvR s (3 * v0 + h) n) σ) := by
  have hx : 3 * v0 + h < 3 * g.2.1 := by omega
  have e3 : (3 * v0 + h) % 3 = h := by omega
  have ed : (3 * v0 + h) / 3 = v0 := by omega
  have hlen := hA.1.2.2.2.1
  obtain ⟨p0, p1, p6, p7, p8, -, prg⟩ := hC.2.2.1 (3 * v0 + h) hx
  obtain ⟨-, -, s8, -⟩ := hC.2.2.2.1 h hh
  obtain ⟨l1, l2, l3, l4, l5, l6, l7, l8, l9, l10⟩ := hA.2.2.1 (3 * v0 + h) hx
  obtain ⟨k1, k2, k3⟩ := hA.2.2.2.1 h hh
  have hN := hA.1.2.2.1
  obtain ⟨n1, n2, n3, n4⟩ := hC.2.1
  by_cases h7 : s.1 7 h 0 = 1
  · have hres : arvR s (3 * v0 + h) n = (s, nI 3) := by unfold arvR; rw [e3, if_pos h7]
    rw [h7] at s8
    rw [hres]
    refine ofK hg w_cd_Gs_arrive (by decide) (by decide) (by first | decide | simp) (by simp [Value.category]) ?_
    intro K hK hR
    have hK : Gd l g "GradientShards" b_Gs_arrive 5 _ K := hK
    refine r_aload_n hK d_Gs_arrive_0 rfl rfl ?_
    refine r_getI hK d_Gs_arrive_1 f_Gs_60 rfl (in_sh rfl (by assumption)) rfl rfl s8 ?_
    refine rn_if_ne (tgt := 9) hK d_Gs_arrive_4 (by decide) (by first | omega | (split <;> omega)) (fun hno => absurd hno (by omega)) (fun _ => ?_)
    refine r_iconst (v := nI 3) hK d_Gs_arrive_7 (by decide) ?_
    exact hR.i d_Gs_arrive_8 rfl (⟨rfl, hC, fun _ _ => rfl⟩)
  · have h70 : s.1 7 h 0 = 0 := by omega
    rw [h70] at s8
    obtain ⟨⟨u6, u78⟩, uL⟩ := hC.2.2.2.2 h hh h70
    obtain ⟨y9, y10, y11, y15⟩ := uL v0 hv0
    have htl := trn_le s.1 (3 * v0 + h)
    have hst := AI_stt hA hh h70 hv0
    have hT := c_Lk_hasTaken (l := l) (t := s.1 5 (3 * v0 + h) n) hg hx y9 (fun q => y15 n q hn) (l7 n) (by omega) (by omega)
    by_cases ht : s.1 5 (3 * v0 + h) n = 1
    · have hres : arvR s (3 * v0 + h) n = (snd (ua s.1 9 3 0 (s.1 9 3 0 + 1), s.2) (cod 1 (3 * v0 + h) (trn s.1 (3 * v0 + h))), nI 2) := by unfold arvR; rw [e3, if_neg h7, if_pos ht]
      rw [if_pos (Or.inr ht)] at hT
      rw [hres]
      have hG6 := hC.1.2.2.2.1
      have hCc := CP_snd (c := cod 1 (3 * v0 + h) (trn s.1 (3 * v0 + h))) (CP_cnt (i := 3) (v := s.1 9 3 0 + 1) hC (by omega))
      refine ofK hg w_cd_Gs_arrive (by decide) (by decide) (by first | decide | simp) (by simp [Value.category]) ?_
      intro K hK hR
      have hK : Gd l g "GradientShards" b_Gs_arrive 5 _ K := hK
      refine r_aload_n hK d_Gs_arrive_0 rfl rfl ?_
      refine r_getI hK d_Gs_arrive_1 f_Gs_60 rfl (in_sh rfl (by assumption)) rfl rfl s8 ?_
      refine rn_if_ne (tgt := 9) hK d_Gs_arrive_4 (by decide) (by first | omega | (split <;> omega)) (fun _ => ?_) (fun hno => absurd hno (by omega))
      refine r_aload_n hK d_Gs_arrive_9 rfl rfl ?_
      refine r_iload_n hK d_Gs_arrive_10 rfl rfl ?_
      refine r_callVI hK d_Gs_arrive_11 m_Gs_193 rfl (in_lk rfl (by assumption)) (hT) (by decide) rfl rfl rfl ?_
      refine r_istore hK d_Gs_arrive_14 rfl rfl ?_
      refine r_iload hK d_Gs_arrive_16 rfl ?_
      refine rn_if_eq (tgt := 34) hK d_Gs_arrive_18 (by decide) (by first | omega | (split <;> omega)) (fun hno => absurd hno (by omega)) (fun _ => ?_)
      refine r_aload_n hK d_Gs_arrive_21 rfl rfl ?_
      refine r_dup hK d_Gs_arrive_22 rfl ?_
      refine r_getI hK d_Gs_arrive_23 f_Gs_173 rfl (in_fix rfl) rfl rfl hG6 ?_
      refine r_iconst (v := nI 1) hK d_Gs_arrive_26 (by decide) ?_
      refine r_iadd hK d_Gs_arrive_27 (nI_add _ _) ?_
      refine r_putI hK d_Gs_arrive_28 f_Gs_173 rfl (in_fix rfl) rfl rfl rfl rfl ?_
      refine r_goto (tgt := 43) hK d_Gs_arrive_31 (by decide) ?_
      refine r_aload_n hK d_Gs_arrive_43 rfl rfl ?_
      refine r_getR hK d_Gs_arrive_44 f_Gs_29 rfl (in_fix rfl) rfl rfl ?_
      refine r_iconst (v := nI 1) hK d_Gs_arrive_47 (by decide) ?_
      refine r_aload_n hK d_Gs_arrive_48 rfl rfl ?_
      refine r_aload_n hK d_Gs_arrive_49 rfl rfl ?_
      refine r_getI hK d_Gs_arrive_50 f_Gs_202 rfl (in_lk rfl (by assumption)) rfl rfl (v := nI (trn s.1 (3 * v0 + h))) (by rw [up_k (by decide)]; exact y9) ?_
      refine r_callSI hK d_Gs_arrive_53 m_Gs_189 (c_Nt_codeOf hg hx (w := (3 * v0 + h) / 3) (h := (3 * v0 + h) % 3) (by rw [up_k (by decide)]; exact p0) (by rw [up_k (by decide)]; exact p1)) (by decide) rfl rfl rfl ?_
      refine r_callVV hK d_Gs_arrive_56 m_Gs_112 rfl (in_fix rfl) (c_Nt_send hg (n := s.2.length) (by rw [up_k (by decide)]; exact n1) hlen) (by decide) rfl rfl rfl ?_
      refine r_iload hK d_Gs_arrive_59 rfl ?_
      refine rn_if_eq (tgt := 68) hK d_Gs_arrive_61 (by decide) (by first | omega | (split <;> omega)) (fun hno => absurd hno (by omega)) (fun _ => ?_)
      refine r_iconst (v := nI 2) hK d_Gs_arrive_64 (by decide) ?_
      refine r_goto (tgt := 69) hK d_Gs_arrive_65 (by decide) ?_
      exact hR.i d_Gs_arrive_69 rfl (⟨rfl, hCc, fun k hk => by rw [sdC_k (by omega) (by omega), up_k (by omega)]⟩)
    · have ht0 : s.1 5 (3 * v0 + h) n = 0 := by have := l7 n; omega
      have hnt : trn s.1 (3 * v0 + h) ≤ n := Nat.not_lt.mp (fun z => ht (tnF_lt _ _ _ z))
      rw [if_neg (by omega)] at hT
      have hres : arvR s (3 * v0 + h) n = (snd (ua s.1 5 (3 * v0 + h) n 1, s.2) (cod 1 (3 * v0 + h) (trn (ua s.1 5 (3 * v0 + h) n 1) (3 * v0 + h))), nI 1) := by unfold arvR; rw [e3, if_neg h7, if_neg ht]
      rw [hres]
      have hA2 := AI_tk hA hx hn (by rw [e3]; exact h70)
      have hM0 := @CP_take g.2.1 sl ru N s σ
      have hta : ∀ t, t ≠ 5 → ua s.1 5 (3 * v0 + h) n 1 t = s.1 t := fun t ht => ua_t ht
      have h5 : ∀ l' j, ua s.1 5 (3 * v0 + h) n 1 5 l' j = if l' = 3 * v0 + h ∧ j = n then 1 else s.1 5 l' j := fun l' j => by
        unfold ua
        by_cases q : l' = 3 * v0 + h ∧ j = n
        · rw [if_pos ⟨rfl, q⟩, if_pos q]
        · rw [if_neg (fun z => q z.2), if_neg q]
      have hCt := fun τ => CP_take (τ := τ) hC hA hv0 hh h70 hn ht0
      generalize ha' : ua s.1 5 (3 * v0 + h) n 1 = a' at *
      have t1 := hta 1 (by decide)
      have t4 := hta 4 (by decide)
      have hTle : trn a' (3 * v0 + h) ≤ s.1 1 (3 * v0 + h) 0 := by have := trn_le a' (3 * v0 + h); rw [t1] at this; exact this
      have hTm : trn s.1 (3 * v0 + h) ≤ trn a' (3 * v0 + h) := by
        unfold trn
        rw [t1]
        exact tnF_mono (fun i hi => by rw [h5]; split; rfl; exact hi) _
      have hem := en_mono (s.1 4 (3 * v0 + h)) hTm
      have htk := c_Lk_take (l := l) (g := g) (σ := σ) (x := 3 * v0 + h) (mk := s.1 1 (3 * v0 + h) 0) (n := n) (f := s.1 4 (3 * v0 + h)) (t := a' 5 (3 * v0 + h)) (T := trn a' (3 * v0 + h)) hg hx p6 y9 y10 (by omega) hn
        (fun j j1 j2 => ⟨(prg j (by omega) j2).1, fun q => ⟨_, by have := ((l6 j j2).resolve_left q).1; omega, ((prg j (by omega) j2).2 q).1⟩⟩)
        (fun j j1 j2 => by
          rw [h5, up_eq]
          by_cases ej : j = n
          · subst ej
            rw [if_pos ⟨rfl, rfl, rfl⟩, if_pos ⟨rfl, rfl⟩]
          · rw [if_neg (by omega), if_neg (fun z => ej z.2)]
            exact y15 j j1 j2)
        (fun j => by rw [h5]; split; exact Nat.le_refl _; exact l7 j) hTm hTle (fun j _ j2 => tnF_lt _ _ _ j2)
        (fun q => by
          have q1 : a' 5 (3 * v0 + h) (trn a' (3 * v0 + h)) ≠ 1 := tnF_stop (a' 5 (3 * v0 + h)) (a' 1 (3 * v0 + h) 0) (by show trn a' (3 * v0 + h) < _; rw [t1]; exact q)
          have q2 : a' 5 (3 * v0 + h) (trn a' (3 * v0 + h)) ≤ 1 := by rw [h5]; split; exact Nat.le_refl _; exact l7 _
          omega)
      rw [show en (s.1 4 (3 * v0 + h)) (trn s.1 (3 * v0 + h)) + (en (s.1 4 (3 * v0 + h)) (trn a' (3 * v0 + h)) - en (s.1 4 (3 * v0 + h)) (trn s.1 (3 * v0 + h))) = en (s.1 4 (3 * v0 + h)) (trn a' (3 * v0 + h)) by omega] at htk
      generalize hS1 : stT σ (3 * v0 + h) n (trn a' (3 * v0 + h)) (en (s.1 4 (3 * v0 + h)) (trn a' (3 * v0 + h))) = σ1 at *
      have s1k : ∀ k, k ≠ 11 → k ≠ 15 → σ1 k = σ k := fun k k1 k2 => by rw [← hS1]; unfold stT; rw [up_k k1, up_k k1, up_k k2]
      have s111 : ∀ j, j ≠ 9 → j ≠ 10 → σ1 11 (3 * v0 + h) j = σ 11 (3 * v0 + h) j := fun j j1 j2 => by rw [← hS1]; unfold stT; rw [up_eq, if_neg (by omega), up_eq, if_neg (by omega), up_k (by decide)]
      have s11o : ∀ l', l' ≠ 3 * v0 + h → σ1 11 l' = σ 11 l' := fun l' hl' => by rw [← hS1]; unfold stT; rw [up_kn (fun z => hl' z.2), up_kn (fun z => hl' z.2), up_k (by decide)]
      have tro : ∀ v, v ≠ v0 → trn a' (3 * v + h) = trn s.1 (3 * v + h) := fun v hv => trn_to (by rw [t1]) (by funext j; rw [h5, if_neg (by omega)])
      have e11 : ∀ v, v < g.2.1 → σ1 11 (3 * v + h) 11 = nI (bnd a' (3 * v + h) (don g.2.1 s.1 h)) := fun v hv => by
        have := (uL v hv).2.2.1
        rw [show (3 * v + h) % 3 = h by omega] at this
        rw [bnd_to (a := s.1) (by rw [t1]) (by rw [t4])]
        by_cases e : v = v0
        · subst e; rw [s111 11 (by decide) (by decide)]; exact this
        · rw [s11o _ (by omega)]; exact this
      have hwko : ∀ k c, wko ru g.2.1 a' k c = wko ru g.2.1 s.1 k c := fun k c => wko_to (fun v hv => ⟨by rw [t1], by rw [t4]⟩)
      have hI : AppM ru g.2.1 h a' σ1 (don g.2.1 s.1 h) 0 0 σ1 := by
        refine ⟨by rw [s1k 5 (by decide) (by decide)]; exact u6, fun p hp => ?_, fun v hv => ?_, fun _ _ _ _ _ _ _ => rfl⟩
        · rw [if_neg (Nat.not_lt_zero _), hwko, s1k 7 (by decide) (by decide), s1k 8 (by decide) (by decide)]
          exact u78 p hp
        · rw [if_neg (Nat.not_lt_zero _)]
          exact e11 v hv
      have hmono : don g.2.1 s.1 h ≤ don g.2.1 a' h := by
        unfold don
        refine minF_mono _ (fun v hv => ?_)
        show en (s.1 4 (3 * v + h)) (trn s.1 (3 * v + h)) ≤ en (a' 4 (3 * v + h)) (trn a' (3 * v + h))
        rw [t4]
        refine en_mono _ ?_
        unfold trn
        rw [t1]
        exact tnF_mono (fun i hi => by rw [h5]; split; rfl; exact hi) _
      have hap := c_Sh_apply (l := l) (g := g) (σ := σ1) (h := h) (ru := ru) (d0 := don g.2.1 s.1 h) (a := a') hg hh hA.1.2.1 hA.1.1 hru (by rw [s1k 5 (by decide) (by decide)]; exact (hC.2.2.2.1 h hh).1) hI
        (fun v hv => by rw [t1]; have := (hA.2.2.1 (3 * v + h) (by omega)).2.2.1; omega)
        (fun v hv => by
          by_cases e : v = v0
          · subst e; rw [← hS1]; simp [stT, up_eq]
          · rw [s11o _ (by omega), tro v e]; exact (uL v hv).1)
        (fun v hv => by
          rw [t4]
          by_cases e : v = v0
          · subst e; rw [← hS1]; simp [stT, up_eq]
          · rw [s11o _ (by omega), tro v e]; exact (uL v hv).2.1)
        (fun v hv j j1 j2 => by
          rw [s1k 12 (by decide) (by decide), s1k 13 (by decide) (by decide), t4]
          refine (hC.2.2.1 (3 * v + h) (by omega)).2.2.2.2.2.2 j ?_ ?_
          · rw [bnd_to (a := s.1) (by rw [t1]) (by rw [t4])] at j1
            have e9 := (hA.2.2.1 (3 * v + h) (by omega)).2.2.2.2.2.2.2.2.1
            rw [show (3 * v + h) % 3 = h by omega] at e9
            rw [e9]
            refine Nat.le_trans ?_ j1
            apply Nat.not_lt.mp
            intro q
            have q1 := bnF_lt _ _ _ _ q
            have q2 : en (s.1 4 (3 * v + h)) (bnd s.1 (3 * v + h) (don g.2.1 s.1 h)) = don g.2.1 s.1 h := en_bnF (don_ends s.1 hv)
            have q3 := k3 h70
            omega
          · have := trn_le a' (3 * v + h)
            rw [t1] at this
            omega)
        (fun v j hv hj => by rw [t1] at hj; rw [t4]; exact (hA.2.2.1 (3 * v + h) (by omega)).2.2.2.2.2.1 j hj) hmono
      refine ofK hg w_cd_Gs_arrive (by decide) (by decide) (by first | decide | simp) (by simp [Value.category]) ?_
      intro K hK hR
      have hK : Gd l g "GradientShards" b_Gs_arrive 5 _ K := hK
      refine r_aload_n hK d_Gs_arrive_0 rfl rfl ?_
      refine r_getI hK d_Gs_arrive_1 f_Gs_60 rfl (in_sh rfl (by assumption)) rfl rfl s8 ?_
      refine rn_if_ne (tgt := 9) hK d_Gs_arrive_4 (by decide) (by first | omega | (split <;> omega)) (fun _ => ?_) (fun hno => absurd hno (by omega))
      refine r_aload_n hK d_Gs_arrive_9 rfl rfl ?_
      refine r_iload_n hK d_Gs_arrive_10 rfl rfl ?_
      refine r_callVI hK d_Gs_arrive_11 m_Gs_193 rfl (in_lk rfl (by assumption)) (hT) (by decide) rfl rfl rfl ?_
      refine r_istore hK d_Gs_arrive_14 rfl rfl ?_
      refine r_iload hK d_Gs_arrive_16 rfl ?_
      refine rn_if_eq (tgt := 34) hK d_Gs_arrive_18 (by decide) (by first | omega | (split <;> omega)) (fun _ => ?_) (fun hno => absurd hno (by omega))
      refine r_aload_n hK d_Gs_arrive_34 rfl rfl ?_
      refine r_iload_n hK d_Gs_arrive_35 rfl rfl ?_
      refine r_callVV hK d_Gs_arrive_36 m_Gs_196 rfl (in_lk rfl (by assumption)) (htk) (by decide) rfl rfl rfl ?_
      refine r_aload_n hK d_Gs_arrive_39 rfl rfl ?_
      refine r_callVP hK d_Gs_arrive_40 m_Gs_199 rfl (in_sh rfl (by assumption)) (hap) (by decide) rfl rfl rfl (fun r9 τ9 hP9 => ?_)
      obtain ⟨rfl, hMM⟩ := hP9
      have hCC := hCt τ9 hMM
      have hNN := hCC.2.1.1
      have hz9 : τ9 11 (3 * v0 + h) 9 = nI (trn a' (3 * v0 + h)) := by rw [hMM.2.2.2 11 (3 * v0 + h) 9 (by omega) (by omega) (by omega) (by omega), ← hS1]; simp [stT, up_eq]
      have hzL := hCC.2.2.1 (3 * v0 + h) hx
      refine r_aload_n hK d_Gs_arrive_43 rfl rfl ?_
      refine r_getR hK d_Gs_arrive_44 f_Gs_29 rfl (in_fix rfl) rfl rfl ?_
      refine r_iconst (v := nI 1) hK d_Gs_arrive_47 (by decide) ?_
      refine r_aload_n hK d_Gs_arrive_48 rfl rfl ?_
      refine r_aload_n hK d_Gs_arrive_49 rfl rfl ?_
      refine r_getI hK d_Gs_arrive_50 f_Gs_202 rfl (in_lk rfl (by assumption)) rfl rfl hz9 ?_
      refine r_callSI hK d_Gs_arrive_53 m_Gs_189 (c_Nt_codeOf hg hx (w := (3 * v0 + h) / 3) (h := (3 * v0 + h) % 3) hzL.1 hzL.2.1) (by decide) rfl rfl rfl ?_
      refine r_callVV hK d_Gs_arrive_56 m_Gs_112 rfl (in_fix rfl) (c_Nt_send hg (n := s.2.length) hNN hlen) (by decide) rfl rfl rfl ?_
      refine r_iload hK d_Gs_arrive_59 rfl ?_
      refine rn_if_eq (tgt := 68) hK d_Gs_arrive_61 (by decide) (by first | omega | (split <;> omega)) (fun _ => ?_) (fun hno => absurd hno (by omega))
      refine r_iconst (v := nI 1) hK d_Gs_arrive_68 (by decide) ?_
      exact hR.i d_Gs_arrive_69 rfl (⟨rfl, CP_snd (c := cod 1 (3 * v0 + h) (trn a' (3 * v0 + h))) hCC, fun k hk => by rw [sdC_k (by omega) (by omega), AppM_row hMM (by omega), s1k k (by omega) (by omega)]⟩)
end Gs2
