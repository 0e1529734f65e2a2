/-! Shard: the clocks that have ended -/
theorem nar_sq (x : Int32) : ∃ q, q ≤ 9801 ∧ nar x * nar x = nI q := by
  have key : ∀ y : Int32, -99 ≤ y.toInt → y.toInt ≤ 99 → ∃ q, q ≤ 9801 ∧ y * y = nI q := by
    intro y h1 h2
    by_cases h0 : 0 ≤ y.toInt
    · refine ⟨y.toInt.toNat * y.toInt.toNat, ?_, ?_⟩
      · have := Nat.mul_le_mul (show y.toInt.toNat ≤ 99 by omega) (show y.toInt.toNat ≤ 99 by omega)
        omega
      · have e : y = nI y.toInt.toNat := Int32.toInt_inj.mp (by rw [nI_toInt (by omega)]; omega)
        rw [← pk_mul, ← e]
    · refine ⟨(-y.toInt).toNat * (-y.toInt).toNat, ?_, ?_⟩
      · have := Nat.mul_le_mul (show (-y.toInt).toNat ≤ 99 by omega) (show (-y.toInt).toNat ≤ 99 by omega)
        omega
      · have e : -y = nI (-y.toInt).toNat := Int32.toInt_inj.mp (by
          rw [nI_toInt (by omega), Int32.toInt_neg, Int.bmod_eq_of_le (by omega) (by omega)]
          omega)
        rw [← pk_mul, ← e, Int32.neg_mul_neg]
  unfold nar
  have a1 : (-99 : Int32).toInt = -99 := by decide
  have a2 : (nI 99).toInt = 99 := by decide
  split
  · exact key _ (by omega) (by omega)
  · next h1 =>
    split
    · exact key _ (by omega) (by omega)
    · next h2 =>
      rw [Int32.lt_iff_toInt_lt, a1] at h1
      rw [Int32.lt_iff_toInt_lt, a2] at h2
      exact key _ (by omega) (by omega)
theorem gF_sq (G : Nat → Int32) : ∀ w, ∃ q, q ≤ 9801 ∧ gF G w * gF G w = nI q
  | 0 => ⟨0, by omega, by show nI 0 * nI 0 = nI 0; decide⟩
  | w + 1 => nar_sq _
theorem wo_mem (G : Nat → Int32) (hG : ∀ c, ∃ q, q ≤ 9801 ∧ G c * G c = nI q) : ∀ c, ∃ M, M ≤ 9801 * c ∧ (wo 2 G c).2 = nI M
  | 0 => ⟨0, by omega, rfl⟩
  | c + 1 => by
    obtain ⟨M, h1, h2⟩ := wo_mem G hG c
    obtain ⟨q, h3, h4⟩ := hG c
    refine ⟨M + q, by omega, ?_⟩
    show (wo 2 G c).2 + G c * G c = _
    rw [h2, h4, nI_add]
theorem wko_mem {w : Nat} (a : Ab) (k c : Nat) (hc : c < 1000) : ∃ M, M < 2 ^ 31 ∧ (wko 2 w a k c).2 + gsm w a k c * gsm w a k c = nI M := by
  obtain ⟨M, h1, h2⟩ := wo_mem (gsm w a k) (fun c => gF_sq _ w) c
  obtain ⟨q, h3, h4⟩ := gF_sq (con a k c) w
  refine ⟨M + q, by omega, ?_⟩
  show (wo 2 (gsm w a k) c).2 + gF (con a k c) w * gF (con a k c) w = _
  rw [h2, h4, nI_add]
/-- a shard in the midst of applying clock c: places below p are done, links below u have gone on -/
def AppM (ru w h : Nat) (a : Ab) (σ : Sg) (c p u : Nat) (τ : Sg) : Prop :=
  τ 5 h 6 = nI c ∧ (∀ p', p' < 2 → τ 7 h p' = (wko ru w a (3 * p' + h) (if p' < p then c + 1 else c)).1 ∧ τ 8 h p' = (wko ru w a (3 * p' + h) (if p' < p then c + 1 else c)).2) ∧
  (∀ v, v < w → τ 11 (3 * v + h) 11 = nI (bnd a (3 * v + h) (if v < u then c + 1 else c))) ∧
  ∀ k n j, ¬ (k = 5 ∧ n = h ∧ j = 6) → ¬ (k = 7 ∧ n = h) → ¬ (k = 8 ∧ n = h) → ¬ (k = 11 ∧ n % 3 = h ∧ j = 11) → τ k n j = σ k n j
theorem AppM_row {ru w h : Nat} {a : Ab} {σ τ : Sg} {c p u : Nat} (q : AppM ru w h a σ c p u τ) {k : Nat} (hk : k ≠ 5 ∧ k ≠ 7 ∧ k ≠ 8 ∧ k ≠ 11) : τ k = σ k := by
  funext n j
  exact q.2.2.2 k n j (fun z => hk.1 z.1) (fun z => hk.2.1 z.1) (fun z => hk.2.2.1 z.1) (fun z => hk.2.2.2 z.1)
theorem AppM_p {ru w h : Nat} {a : Ab} {σ τ : Sg} {c p : Nat} (q : AppM ru w h a σ c p 0 τ) : AppM ru w h a σ c (p + 1) 0 (up (up τ 8 h p (wko ru w a (3 * p + h) (c + 1)).2) 7 h p (wko ru w a (3 * p + h) (c + 1)).1) := by
  obtain ⟨q1, q2, q3, q4⟩ := q
  refine ⟨by simp [up_eq, q1], fun p' hp' => ?_, fun v hv => by simp [up_eq]; exact q3 v hv, fun k n j h1 h2 h3 h4 => ?_⟩
  · by_cases e : p' = p
    · subst e
      rw [if_pos (by omega)]
      exact ⟨by simp [up_eq], by simp [up_eq]⟩
    · have := q2 p' hp'
      rw [show (if p' < p + 1 then c + 1 else c) = (if p' < p then c + 1 else c) by split <;> split <;> omega]
      exact ⟨by simp [up_eq, e]; exact this.1, by simp [up_eq, e]; exact this.2⟩
  · rw [up_eq, if_neg (fun z => h2 ⟨z.1, z.2.1⟩), up_eq, if_neg (fun z => h3 ⟨z.1, z.2.1⟩)]
    exact q4 k n j h1 h2 h3 h4
theorem AppM_u {ru w h : Nat} {a : Ab} {σ τ : Sg} {c p u : Nat} (hh : h < 3) (q : AppM ru w h a σ c p u τ) : AppM ru w h a σ c p (u + 1) (up τ 11 (3 * u + h) 11 (nI (bnd a (3 * u + h) (c + 1)))) := by
  obtain ⟨q1, q2, q3, q4⟩ := q
  refine ⟨by simp [up_eq, q1], fun p' hp' => by simp [up_eq]; exact q2 p' hp', fun v hv => ?_, fun k n j h1 h2 h3 h4 => ?_⟩
  · by_cases e : v = u
    · subst e
      rw [if_pos (by omega)]
      simp [up_eq]
    · have h5 : 3 * v + h ≠ 3 * u + h := by omega
      have := q3 v hv
      rw [show (if v < u + 1 then c + 1 else c) = (if v < u then c + 1 else c) by split <;> split <;> omega]
      rw [up_eq, if_neg (fun z => h5 z.2.1)]
      exact this
  · rw [up_eq, if_neg (fun z => h4 ⟨z.1, by omega, z.2.2⟩)]
    exact q4 k n j h1 h2 h3 h4
theorem AppM_c {ru w h : Nat} {a : Ab} {σ τ : Sg} {c : Nat} (q : AppM ru w h a σ c 2 w τ) : AppM ru w h a σ (c + 1) 0 0 (up τ 5 h 6 (nI (c + 1))) := by
  obtain ⟨q1, q2, q3, q4⟩ := q
  refine ⟨by simp [up_eq], fun p' hp' => ?_, fun v hv => ?_, fun k n j h1 h2 h3 h4 => ?_⟩
  · have := q2 p' hp'
    rw [if_pos hp'] at this
    rw [if_neg (Nat.not_lt_zero _)]
    exact ⟨by simp [up_eq]; exact this.1, by simp [up_eq]; exact this.2⟩
  · have := q3 v hv
    rw [if_pos hv] at this
    rw [if_neg (Nat.not_lt_zero _)]
    simp [up_eq]
    exact this
  · rw [up_eq, if_neg h1]
    exact q4 k n j h1 h2 h3 h4
theorem minF_same {F : Nat → Nat} {w z : Nat} (hw : 1 ≤ w) (hz : ∀ v, v < w → F v ≤ z) : minF F (F 0) w = minF F z w := by
  apply Nat.le_antisymm
  · exact minF_ge F z _ (Nat.le_trans (minF_le F (F 0) w) (hz 0 (by omega))) w (fun v hv => minF_at F (F 0) w v hv)
  · exact minF_ge F (F 0) _ (minF_at F z w 0 (by omega)) w (fun v hv => minF_at F z w v hv)
section Sh2
variable {l : Launch} {g : Gc} {σ : Sg} {h : Nat}
theorem c_Sh_apply (hg : Gok g) (hh : h < 3) {ru d0 : Nat} {a : Ab} (hw : g.2.1 ≤ 4) (hw1 : 1 ≤ g.2.1) (hru : ru ≤ 2) (hr : σ 5 h 0 = nI ru) (hI : AppM ru g.2.1 h a σ d0 0 0 σ) (hmk : ∀ v, v < g.2.1 → a 1 (3 * v + h) 0 ≤ 512)
    (h9 : ∀ v, v < g.2.1 → σ 11 (3 * v + h) 9 = nI (trn a (3 * v + h))) (h10 : ∀ v, v < g.2.1 → σ 11 (3 * v + h) 10 = nI (en (a 4 (3 * v + h)) (trn a (3 * v + h))))
    (hrg : ∀ v, v < g.2.1 → RgP (a 4 (3 * v + h)) σ (3 * v + h) (bnd a (3 * v + h) d0) (trn a (3 * v + h))) (hok : ∀ v n, v < g.2.1 → n < a 1 (3 * v + h) 0 → okM (3 * v + h) (a 4 (3 * v + h) n)) (hd0 : d0 ≤ don g.2.1 a h) :
    Ct l g y_Sh_applyEndedClocks 3 [.ref (g.1 5 h)] σ (fun r τ => r = none ∧ AppM ru g.2.1 h a σ (don g.2.1 a h) 0 0 τ) := by
  have hen : ∀ v, v < g.2.1 → en (a 4 (3 * v + h)) (trn a (3 * v + h)) ≤ 512 := fun v hv => Nat.le_trans (en_le _ _) (Nat.le_trans (trn_le a _) (hmk v hv))
  have hdn : don g.2.1 a h ≤ 512 := Nat.le_trans (don_le a hw1) (hen 0 (by omega))
  have hmin : minF (fun v => en (a 4 (3 * v + h)) (trn a (3 * v + h))) (en (a 4 (3 * 0 + h)) (trn a (3 * 0 + h))) g.2.1 = don g.2.1 a h := minF_same (F := fun v => en (a 4 (3 * v + h)) (trn a (3 * v + h))) (z := 1000) hw1 (fun v hv => Nat.le_trans (hen v hv) (by decide))
  have htk : ∀ v, v < g.2.1 → trn a (3 * v + h) < 2 ^ 20 := fun v hv => by
    have h1 := trn_le a (3 * v + h)
    have h2 := hmk v hv
    omega
  -- the boundary, seen from the turn
  have hbt : ∀ v c, v < g.2.1 → c ≤ don g.2.1 a h → bnd a (3 * v + h) c = bnF (a 4 (3 * v + h)) c (trn a (3 * v + h)) := fun v c hv hc => bnF_grow (trn_le a _) (fun _ _ => rfl) (Nat.le_trans hc (don_le a hv))
  have hbm : ∀ v c, v < g.2.1 → d0 ≤ c → c ≤ don g.2.1 a h → bnd a (3 * v + h) d0 ≤ bnd a (3 * v + h) c := fun v c hv h1 h2 => by
    apply Nat.not_lt.mp
    intro q
    have e1 := bnF_lt _ _ _ _ q
    have e2 : en (a 4 (3 * v + h)) (bnd a (3 * v + h) c) = c := en_bnF (Nat.le_trans h2 (don_ends a hv))
    omega
  refine ofK hg w_cd_Sh_applyEndedClocks (by decide) (by decide) (by first | decide | simp) (by simp [Value.category]) ?_
  intro K hK hR
  have hK : Gd l g "GradientShards$Shard" b_Sh_applyEndedClocks 6 _ K := hK
  have hinner : ∀ c τ, d0 ≤ c → c < don g.2.1 a h → AppM ru g.2.1 h a σ c 2 0 τ → (∀ τ', AppM ru g.2.1 h a σ (c + 1) 0 0 τ' → K 5 [.ref (g.1 5 h), .int (nI (don g.2.1 a h))] [] τ') → K 36 [.ref (g.1 5 h), .int (nI (don g.2.1 a h)), .int (nI 2)] [] τ := by
    intro c τ hc0 hc hM hK5
    have hlp : ∀ d i τ, i + d = g.2.1 → AppM ru g.2.1 h a σ c 2 i τ → K 47 [.ref (g.1 5 h), .int (nI (don g.2.1 a h)), .ref (g.1 6 h), .int (nI g.2.1), .int (nI i)] [] τ := by
      intro d
      induction d with
      | zero =>
        intro i τ hi hM
        obtain rfl : i = g.2.1 := by omega
        refine r_iload hK d_Sh_applyEndedClocks_47 rfl ?_
        refine r_iload_n hK d_Sh_applyEndedClocks_49 rfl rfl ?_
        refine rn_icmp_ge (tgt := 70) hK d_Sh_applyEndedClocks_50 (by decide) (by first | omega | (split <;> omega)) (by first | omega | (split <;> omega)) (fun _ => ?_) (fun hno => absurd hno (by omega))
        refine r_aload_n hK d_Sh_applyEndedClocks_70 rfl rfl ?_
        refine r_dup hK d_Sh_applyEndedClocks_71 rfl ?_
        refine r_getI hK d_Sh_applyEndedClocks_72 f_Sh_57 rfl (in_sh rfl (by assumption)) rfl rfl hM.1 ?_
        refine r_iconst (v := nI 1) hK d_Sh_applyEndedClocks_75 (by decide) ?_
        refine r_iadd hK d_Sh_applyEndedClocks_76 (nI_add _ _) ?_
        refine r_putI hK d_Sh_applyEndedClocks_77 f_Sh_57 rfl (in_sh rfl (by assumption)) rfl rfl rfl rfl ?_
        refine r_goto (tgt := 5) hK d_Sh_applyEndedClocks_80 (by decide) ?_
        exact r_drop 2 hK (hK5 _ (AppM_c hM))
      | succ d ih =>
        intro i τ hi hM
        have hiw : i < g.2.1 := by omega
        have hlk : 3 * i + h < 3 * g.2.1 := by omega
        have hc1 : c < en (a 4 (3 * i + h)) (trn a (3 * i + h)) := Nat.lt_of_lt_of_le hc (don_le a hiw)
        obtain ⟨E, e1, e2, e3, e4, e5⟩ := next_end hc1
        rw [← hbt i c hiw (by omega)] at e1 e4
        rw [← hbt i (c + 1) hiw (by omega)] at e5
        have hb := hM.2.2.1 i hiw
        rw [if_neg (Nat.lt_irrefl _)] at hb
        have t9 : τ 11 (3 * i + h) 9 = nI (trn a (3 * i + h)) := by rw [hM.2.2.2 11 (3 * i + h) 9 (by omega) (by omega) (by omega) (by omega)]; exact h9 i hiw
        have hrg2 : RgP (a 4 (3 * i + h)) τ (3 * i + h) (bnd a (3 * i + h) c) (trn a (3 * i + h)) := fun n n1 n2 => by
          rw [AppM_row hM (by decide), AppM_row hM (by decide)]
          exact hrg i hiw n (Nat.le_trans (hbm i c hiw hc0 (by omega)) n1) n2
        have hM2 := AppM_u hh hM
        rw [e5] at hM2
        refine r_iload hK d_Sh_applyEndedClocks_47 rfl ?_
        refine r_iload_n hK d_Sh_applyEndedClocks_49 rfl rfl ?_
        refine rn_icmp_ge (tgt := 70) hK d_Sh_applyEndedClocks_50 (by decide) (by first | omega | (split <;> omega)) (by first | omega | (split <;> omega)) (fun hno => absurd hno (by omega)) (fun _ => ?_)
        refine r_aload_n hK d_Sh_applyEndedClocks_53 rfl rfl ?_
        refine r_iload hK d_Sh_applyEndedClocks_54 rfl ?_
        refine r_aald hK d_Sh_applyEndedClocks_56 rfl (Or.inr rfl) (in_sh rfl (by assumption)) (ix_nI (j := i) (by omega)) (by show i < g.2.1; omega) rfl ?_
        refine r_astore hK d_Sh_applyEndedClocks_57 rfl rfl ?_
        refine r_aload hK d_Sh_applyEndedClocks_59 rfl ?_
        refine r_callVV hK d_Sh_applyEndedClocks_61 m_Sh_67 rfl (in_lk rfl (by assumption)) (c_Lk_moveB hg hlk t9 hb (htk i hiw) hrg2 (fun j j1 j2 j3 => ((hok i j hiw (Nat.lt_of_lt_of_le j2 (trn_le a _))).resolve_left j3).1) e1 e2 e3 e4) (by decide) rfl rfl rfl ?_
        refine r_iinc hK d_Sh_applyEndedClocks_64 rfl (nI_1 _) rfl ?_
        refine r_goto (tgt := 47) hK d_Sh_applyEndedClocks_67 (by decide) ?_
        exact r_drop 5 hK (ih (i + 1) _ (by omega) hM2)
    refine r_aload_n hK d_Sh_applyEndedClocks_36 rfl rfl ?_
    refine r_getR hK d_Sh_applyEndedClocks_37 f_Sh_34 rfl (in_sh rfl (by assumption)) rfl rfl ?_
    refine r_astore_n hK d_Sh_applyEndedClocks_40 rfl rfl rfl ?_
    refine r_aload_n hK d_Sh_applyEndedClocks_41 rfl rfl ?_
    refine r_alen hK d_Sh_applyEndedClocks_42 rfl rfl (in_sh rfl (by assumption)) ?_
    refine r_istore_n hK d_Sh_applyEndedClocks_43 rfl rfl rfl ?_
    refine r_iconst (v := nI 0) hK d_Sh_applyEndedClocks_44 (by decide) ?_
    refine r_istore hK d_Sh_applyEndedClocks_45 rfl rfl ?_
    exact hlp g.2.1 0 τ (by omega) hM
  have hplaces : ∀ c τ, d0 ≤ c → c < don g.2.1 a h → AppM ru g.2.1 h a σ c 0 0 τ → (∀ τ', AppM ru g.2.1 h a σ (c + 1) 0 0 τ' → K 5 [.ref (g.1 5 h), .int (nI (don g.2.1 a h))] [] τ') → ∀ d p τ, p + d = 2 → AppM ru g.2.1 h a σ c p 0 τ → K 15 [.ref (g.1 5 h), .int (nI (don g.2.1 a h)), .int (nI p)] [] τ := by
    intro c τ0 hc0 hc hM0 hK5 d
    induction d with
    | zero =>
      intro p τ hp hM
      obtain rfl : p = 2 := by omega
      refine r_iload_n hK d_Sh_applyEndedClocks_15 rfl rfl ?_
      refine r_iconst (v := nI 2) hK d_Sh_applyEndedClocks_16 (by decide) ?_
      refine rn_icmp_ge (tgt := 36) hK d_Sh_applyEndedClocks_17 (by decide) (by first | omega | (split <;> omega)) (by first | omega | (split <;> omega)) (fun _ => ?_) (fun hno => absurd hno (by omega))
      exact hinner c τ hc0 hc hM hK5
    | succ d ih =>
      intro p τ hp hM
      have hp2 : p < 2 := by omega
      have e3 : (3 * p + h) % 3 = h := by omega
      have hF : ∀ v, v < g.2.1 → CI l g y_Lk_contribution 1 [.ref (g.1 11 (3 * v + h)), .int (nI p)] τ (con a (3 * p + h) c v) τ := fun v hv => by
        have hlk : 3 * v + h < 3 * g.2.1 := by omega
        have hc1 : c < en (a 4 (3 * v + h)) (trn a (3 * v + h)) := Nat.lt_of_lt_of_le hc (don_le a hv)
        have hb := hM.2.2.1 v hv
        rw [if_neg (Nat.not_lt_zero _)] at hb
        have t9 : τ 11 (3 * v + h) 9 = nI (trn a (3 * v + h)) := by rw [hM.2.2.2 11 (3 * v + h) 9 (by omega) (by omega) (by omega) (by omega)]; exact h9 v hv
        have hrg2 : RgP (a 4 (3 * v + h)) τ (3 * v + h) (bnd a (3 * v + h) c) (trn a (3 * v + h)) := fun n n1 n2 => by
          rw [AppM_row hM (by decide), AppM_row hM (by decide)]
          exact hrg v hv n (Nat.le_trans (hbm v c hv hc0 (by omega)) n1) n2
        have hle : bnd a (3 * v + h) c ≤ trn a (3 * v + h) := by rw [hbt v c hv (by omega)]; exact bnF_le _ _ _
        have hcc := c_Lk_contribution (l := l) (k := 3 * p + h) hg hlk t9 hb (htk v hv) hle hrg2 (fun j j1 j2 j3 => ⟨((hok v j hv (Nat.lt_of_lt_of_le j2 (trn_le a _))).resolve_left j3).1, by have := ((hok v j hv (Nat.lt_of_lt_of_le j2 (trn_le a _))).resolve_left j3).2.1; omega⟩) hp2 rfl hh
        have e4 : con a (3 * p + h) c v = conF (a 4 (3 * v + h)) (3 * p + h) (bnd a (3 * v + h) c) (trn a (3 * v + h) - bnd a (3 * v + h) c) (nI 0) := by
          unfold con
          rw [e3]
          have := con_grow (k := 3 * p + h) (trn_le a (3 * v + h)) (fun _ _ => rfl) hc1
          rw [← hbt v c hv (by omega)] at this
          exact this
        rw [e4]
        exact hcc
      have hva := hM.2.1 p hp2
      rw [if_neg (Nat.lt_irrefl _)] at hva
      have tr : τ 5 h 0 = nI ru := by rw [hM.2.2.2 5 h 0 (by omega) (by omega) (by omega) (by omega)]; exact hr
      have hs : gF (con a (3 * p + h) c) g.2.1 = gsm g.2.1 a (3 * p + h) c := rfl
      refine r_iload_n hK d_Sh_applyEndedClocks_15 rfl rfl ?_
      refine r_iconst (v := nI 2) hK d_Sh_applyEndedClocks_16 (by decide) ?_
      refine rn_icmp_ge (tgt := 36) hK d_Sh_applyEndedClocks_17 (by decide) (by first | omega | (split <;> omega)) (by first | omega | (split <;> omega)) (fun hno => absurd hno (by omega)) (fun _ => ?_)
      refine r_aload_n hK d_Sh_applyEndedClocks_20 rfl rfl ?_
      refine r_iload_n hK d_Sh_applyEndedClocks_21 rfl rfl ?_
      refine r_aload_n hK d_Sh_applyEndedClocks_22 rfl rfl ?_
      refine r_iload_n hK d_Sh_applyEndedClocks_23 rfl rfl ?_
      refine r_callVI hK d_Sh_applyEndedClocks_24 m_Sh_60 rfl (in_sh rfl (by assumption)) (c_Sh_sumOf hg hh hw hF) (by decide) rfl rfl rfl ?_
      refine r_callVV hK d_Sh_applyEndedClocks_27 m_Sh_64 rfl (in_sh rfl (by assumption)) (c_Sh_applySum hg hh hp2 hru tr hva.1 hva.2 (fun e => by subst e; exact wko_mem a _ c (by omega))) (by decide) rfl rfl rfl ?_
      refine r_iinc hK d_Sh_applyEndedClocks_30 rfl (nI_1 _) rfl ?_
      refine r_goto (tgt := 15) hK d_Sh_applyEndedClocks_33 (by decide) ?_
      exact ih (p + 1) _ (by omega) (AppM_p hM)
  have hloop : ∀ d c τ, c + d = don g.2.1 a h → d0 ≤ c → AppM ru g.2.1 h a σ c 0 0 τ → K 5 [.ref (g.1 5 h), .int (nI (don g.2.1 a h))] [] τ := by
    intro d
    induction d with
    | zero =>
      intro c τ hc hc0 hM
      obtain rfl : c = don g.2.1 a h := by omega
      refine r_aload_n hK d_Sh_applyEndedClocks_5 rfl rfl ?_
      refine r_getI hK d_Sh_applyEndedClocks_6 f_Sh_57 rfl (in_sh rfl (by assumption)) rfl rfl hM.1 ?_
      refine r_iload_n hK d_Sh_applyEndedClocks_9 rfl rfl ?_
      refine rn_icmp_ge (tgt := 83) hK d_Sh_applyEndedClocks_10 (by decide) (by first | omega | (split <;> omega)) (by first | omega | (split <;> omega)) (fun _ => ?_) (fun hno => absurd hno (by omega))
      exact hR.v d_Sh_applyEndedClocks_83 (⟨rfl, hM⟩)
    | succ d ih =>
      intro c τ hc hc0 hM
      refine r_aload_n hK d_Sh_applyEndedClocks_5 rfl rfl ?_
      refine r_getI hK d_Sh_applyEndedClocks_6 f_Sh_57 rfl (in_sh rfl (by assumption)) rfl rfl hM.1 ?_
      refine r_iload_n hK d_Sh_applyEndedClocks_9 rfl rfl ?_
      refine rn_icmp_ge (tgt := 83) hK d_Sh_applyEndedClocks_10 (by decide) (by first | omega | (split <;> omega)) (by first | omega | (split <;> omega)) (fun hno => absurd hno (by omega)) (fun _ => ?_)
      refine r_iconst (v := nI 0) hK d_Sh_applyEndedClocks_13 (by decide) ?_
      refine r_istore_n hK d_Sh_applyEndedClocks_14 rfl rfl rfl ?_
      exact hplaces c τ hc0 (by omega) hM (fun τ' h' => ih (c + 1) τ' (by omega) (by omega) h') 2 0 τ rfl hM
  have h0 := hloop (don g.2.1 a h - d0) d0 σ (by omega) (Nat.le_refl _) hI
  rw [← hmin] at h0
  refine r_aload_n hK d_Sh_applyEndedClocks_0 rfl rfl ?_
  refine r_callVI hK d_Sh_applyEndedClocks_1 m_Sh_54 rfl (in_sh rfl (by assumption)) (c_Sh_leastEnds hg hh (F := fun v => en (a 4 (3 * v + h)) (trn a (3 * v + h))) hw hw1 h10 (fun v hv => by have := hen v hv; show en (a 4 (3 * v + h)) (trn a (3 * v + h)) < _; omega)) (by decide) rfl rfl rfl ?_
  refine r_istore_n hK d_Sh_applyEndedClocks_4 rfl rfl rfl ?_
  exact h0
end Sh2
