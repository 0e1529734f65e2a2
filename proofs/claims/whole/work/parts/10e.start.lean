/-! THE CLAIM OUT OF ONE WALK OF THE LAW'S BODY. Your part is whole_start (and what it stands on); all else here is the same for every law, but numbers. -/
def R_law : String := "GradientShardsLaw"
def lw_P (b : Addr) (xs : List Int32) (args : Array Value) (s : State) : Prop := args = #[.ref b] ∧ s.IntsAt b xs ∧ xs.length ≤ 2051 ∧ (Jvm.Cond.and given_1 narrow_1).before args s = true
def lw_Q (_ : Array Value) (s : State) (o : Outcome) (t : State) : Prop := o = .returned (some (.int 1)) ∧ Framed s o t [] 600000 7302250
def lw_Z (below : List Frame) (a : Array Value) (s : State) : State → Prop := fun t => ∃ o, t.status = .running ∧ Ended t below o ∧ lw_Q a s o t
/-- the law's own end, with 1 on the stack, nothing written that was there before, its room as the claim has it -/
theorem lw_ret {p : Program} {l : Launch} {e : Env} {s : State} {m : MethodId} {below : List Frame} {meth : Method} {c : Code} {b : Nat} (hx : p.tables.exec = Jvm.exec) (hb : c.code = code) (hr : meth.sig.returnType = ret) (hlocks : meth.locks = false) {pc : Nat} {H : Heap} {ls : Array Slot} (hdg : decode code pc = .ok (.ireturn, 1)) : W p l e room_1 s m #[Value.ref b] below meth c H [] 600000 7302250 (lw_Z below #[Value.ref b] s) (F0 m pc ls [.int 1]) := by
  intro T hT X
  obtain ⟨fs, hret, hrun, hended, hW, hframe⟩ := X.leave (v := some (.int 1)) (hlocks := hlocks) (fun h => by rw [hr] at h; cases h)
  have hmeth' : T.vm.method? m = some meth := X.method'
  refine ⟨T.setFrames fs, ?_, .returned (some (.int 1)), hrun, hended, rfl, ⟨_, rfl⟩, hW, hframe⟩
  jvm_step X.here [X.here.top, hx, hb, hdg, hmeth', hr, ret, narrow_b1]
  (try refine ⟨rfl, ?_⟩); (try refine ⟨rfl, ?_⟩)
  first | (intro acts; rw [hret _ acts rfl rfl rfl]) | rw [hret _ _ rfl rfl rfl]
  exact Steps.refl _
/-- what holds at the law's entry: the machine, the code, the tables' words (any of lw_tbl by 'hts w (by decide +kernel)'), the script of L ints xs at the cell b, what the Statement gives of the start (any of its parts by flat_of_before) -/
def lw_At (p : Program) (s : State) (m : MethodId) (meth : Method) (c : Code) (b L : Nat) (xs : Nat → Int32) : Prop :=
  p.tables.exec = Jvm.exec ∧ c.code = code ∧ meth.sig.returnType = ret ∧ c.maxLocals = 4 ∧ s.vm.findClass R_law = some m.cls ∧ (∀ w ∈ lw_tbl, w.before #[Value.ref b] s = true) ∧ va_X b L xs s s.heap ∧ b < s.heap.size ∧ meth.locks = false ∧ (Jvm.Cond.and given_1 narrow_1).before #[Value.ref b] s = true
def pick5 {α : Type} (a b c d e : α) : Nat → α := fun k => match k with
  | 0 => a
  | 1 => b
  | 2 => c
  | 3 => d
  | _ => e
theorem ctx_0 {s : State} {b : Nat} (hts : ∀ w ∈ lw_tbl, w.before #[Value.ref b] s = true) : ∃ (D : va_G) (cA : Nat → ClassId), Ctx D cA s := by
  have hg : ∀ w ∈ GW, w.before #[Value.ref b] s = true := fun w hw => hts w (gw_tbl w hw)
  obtain ⟨c0, i0, k0⟩ := u_known (C := R_Lk) (T := T_Lk) (N := 12) hg uw_Lk (hg _ w_is_Lk)
  obtain ⟨c1, i1, k1⟩ := u_known (C := R_Nt) (T := T_Nt) (N := 4) hg uw_Nt (hg _ w_is_Nt)
  obtain ⟨c2, i2, k2⟩ := u_known (C := R_Sh) (T := T_Sh) (N := 9) hg uw_Sh (hg _ w_is_Sh)
  obtain ⟨c3, i3, k3⟩ := u_known (C := R_Gs) (T := T_Gs) (N := 9) hg uw_Gs (hg _ w_is_Gs)
  obtain ⟨c4, i4, k4⟩ := u_known (C := R_Md) (T := T_Md) (N := 20) hg uw_Md (hg _ w_is_Md)
  obtain ⟨a0, ka0, p0, f0, g0, e0⟩ := Cond.arrayClass_spec (hg _ w_ac_int)
  obtain ⟨a1, ka1, p1, f1, g1, e1⟩ := Cond.arrayClass_spec (hg _ w_ac_boolean)
  obtain ⟨p2, a2, ka2, n2, -, g2, e2, f2⟩ := Cond.arrayOver_spec (hts _ w_ao_Sh)
  obtain ⟨p3, a3, ka3, n3, -, g3, e3, f3⟩ := Cond.arrayOver_spec (hts _ w_ao_Lk)
  refine ⟨(pick5 c0 c1 c2 c3 c4, pick5 i0 i1 i2 i3 i4), pick5 a0 a1 a2 a3 a3, ⟨fun c q hq => ?_, fun k q hq => ?_⟩, ⟨fun q hq => va_Nw.of rfl (hts _ (nf_tbl q hq)), fun q hq => va_Nw.of rfl (hts _ (nm_tbl q hq))⟩, va_AO.of (hts _ w_ao_Sh), va_AO.of (hts _ w_ao_Lk)⟩
  · match c, hq with
    | 0, hq => cases hq; exact k0
    | 1, hq => cases hq; exact k1
    | 2, hq => cases hq; exact k2
    | 3, hq => cases hq; exact k3
    | 4, hq => cases hq; exact k4
    | n + 5, hq => exact absurd hq (by simp)
  · match k, hq with
    | 0, hq => cases hq; exact ⟨fun n z => ⟨fun k h => (by cases h), ka0, g0, p0, e0⟩, f0⟩
    | 1, hq => cases hq; exact ⟨fun n z => ⟨fun k h => (by cases h), ka1, g1, p1, e1⟩, f1⟩
    | 2, hq => cases hq; exact ⟨fun n z => ⟨fun k h => (by cases h), ka2, g2, p2, e2⟩, ka2, p2, g2, e2, n2, f2⟩
    | 3, hq => cases hq; exact ⟨fun n z => ⟨fun k h => (by cases h), ka3, g3, p3, e3⟩, ka3, p3, g3, e3, n3, f3⟩
    | n + 4, hq => exact absurd hq (by simp [tq])
set_option maxHeartbeats 2000000 in
theorem whole_start {p : Program} {e : Env} {s : State} {m : MethodId} {below : List Frame} {meth : Method} {c : Code} (l : Launch) {b L : Nat} {xs : Nat → Int32} (hL : L ≤ 2051) (C0 : lw_At p s m meth c b L xs) : W p l e room_1 s m #[Value.ref b] below meth c s.heap [] 0 0 (lw_Z below #[Value.ref b] s) (entryFrame m ([Value.ref b] : List Value).toArray 4) := by
  obtain ⟨hx, hb, hr, hml, hown, hts, hX, hbl, hlocks, hgv⟩ := C0
  have hg : ∀ w ∈ GW, w.before #[Value.ref b] s = true := fun w hw => hts w (gw_tbl w hw)
  obtain ⟨D, cA, hctx⟩ := ctx_0 hts
  obtain ⟨w, h1, h4, hu⟩ := nwk_ex (Vx L xs 0)
  obtain ⟨sl, hsl, hk⟩ := nzk_ex 3 (by omega) (Vx L xs 1)
  obtain ⟨ru, hru, hr2⟩ := nzk_ex 2 (by omega) (Vx L xs 2)
  have hcat : ∀ v ∈ ([.ref b] : List Value), v.category = 1 := by simp [Value.category]
  have hl := lv_entry [.ref b] (n := 4) (by rw [lg_len _ hcat]; show 1 ≤ 4; omega)
  rw [lg_entry_eq]
  generalize (lg_sl [.ref b] ++ List.replicate (4 - (lg_sl [.ref b]).length) Slot.unset).toArray = ls at hl ⊢
  rw [lvi_args _ 0 hcat] at hl
  refine law_pre (l := l) (D := D) (cA := cA) (A := fun q => s.heap.size ≤ q) (b := b) (w := w) (sl := sl) (ru := ru) (V := Vx L xs) (K := fun pc lv st X cells slots => ∀ (H : Heap) (locs : List Loc) (ls : Array Slot), lv_has ls 4 (lvi 0 lv) → (∀ v ∈ lv, v.category = 1) → va_P D vwCl ([] ++ X) H → va_D (fun q => s.heap.size ≤ q) ([] ++ X) → va_S (fun q => s.heap.size ≤ q) s.heap H locs → W p l e room_1 s m #[Value.ref b] below meth c H locs cells slots (lw_Z below #[Value.ref b] s) (F0 m pc ls st)) ?_ h4 hu hk hr2 ?_ ?_ s.heap [] ls hl hcat ?_ ?_ va_S.rf
  · exact ⟨p, e, s, m, #[Value.ref b], below, meth, c, _, hx, hb, hml, hown, hg, hctx, fun q h => h, fun h => (by cases h), rfl⟩
  · intro pc lv st X cells slots j hd hj hst hc1 hs1 k H locs ls hl hc hP hD hS
    have hXH : va_X b L xs s H := hX.kept (hS.2.1 b hbl (by omega))
    have hpre : PreS s H (va_Pc [.ref b, .int (nI j)] (fun U => va_X b L xs U U.heap ∧ b < U.heap.size)) [.ref b, .int (nI j)] :=
      ⟨fun a U f mk q => by
        obtain ⟨q0, q1, q2⟩ := q
        exact ⟨q0, va_X.moved (u := U) (U := U.calling f mk a) (Vm.Alike.refl U.vm) q1, q2⟩, fun U hU hW => ⟨rfl, by rw [hU]; exact hXH.moved hW.alike, by rw [hU]; exact Nat.lt_of_lt_of_le hbl hS.1⟩⟩
    exact W.callR (W.runS (cells := cells) (slots := slots) ⟨hx, hb, hml, hown, hg⟩ (c_Lw_cell (l := l) (b := b) (xs := xs) hL hj) ⟨callB_of 2 hg (gw_in w_cd_Lw_cell) rfl rfl rfl (hg _ w_in_Lw) (hg _ w_ml_Lw_9) (by decide +kernel) ⟨by decide, by decide⟩, hg _ w_st_Lw_cell⟩ hpre rfl rfl hl.1 rfl (by show 2 * 0 + _ ≤ 8; omega) hd ⟨hc1, hs1⟩) (k H locs ls hl hc hP hD hS)
  · intro z a c2 mm H locs ls hl hc hP hD hS
    have hperm := ord_perm h1 h4
    have hP' : va_P D vwCl ((ord w).map (FX (rho z a c2 mm, w, cA, D) (sig0 w sl ru))) H := by rw [← blk]; exact hP
    have hD' : va_D (fun q => s.heap.size ≤ q) ((ord w).map (FX (rho z a c2 mm, w, cA, D) (sig0 w sl ru))) := by rw [← blk]; exact hD
    have hge : ∀ q, Ag (rho z a c2 mm, w, cA, D) q → s.heap.size ≤ q := fun q hq => ge_of (A := fun q => s.heap.size ≤ q) (g := (rho z a c2 mm, w, cA, D)) hperm hD' hq
    have hok : Gok (rho z a c2 mm, w, cA, D) := ok_of (g := (rho z a c2 mm, w, cA, D)) hperm hD'
    have hbA : ¬ Ag (rho z a c2 mm, w, cA, D) b := fun q => by have := hge b q; omega
    refine va_forget (fun q hq => hS.2.2 q hq) ?_
    refine law_loop (l := l) (g := (rho z a c2 mm, w, cA, D)) (sl := sl) (ru := ru) (b := b) (L := L) (xs := xs) hok (K := fun pc lv st σ => ∀ (H : Heap) (locs : List Loc) (ls : Array Slot), lv_has ls 4 (lvi 0 lv) → (∀ v ∈ lv, v.category = 1) → va_P D vwCl (wd (rho z a c2 mm, w, cA, D) σ) H → va_S (Ag (rho z a c2 mm, w, cA, D)) s.heap H locs → W p l e room_1 s m #[Value.ref b] below meth c H locs 97 14908 (lw_Z below #[Value.ref b] s) (F0 m pc ls st)) ?_ hL hsl hru ?_ ?_ ?_ L 0 sp0 (sig0 w sl ru) (by omega) (ai_0 h1 h4) (cp_0 h1) mp_0 (by omega) H [] ls hl hc (wd_of (g := (rho z a c2 mm, w, cA, D)) hperm hP') ⟨hS.1, fun q q1 q2 => hS.2.1 q q1 (Nat.not_le.mpr q1), fun q hq => by cases hq⟩
    · exact ⟨p, e, room_1, s, m, #[Value.ref b], below, meth, c, 97, 14908, _, hx, hb, hml, hown, hg, hctx.1, hctx.2.1, hok, ⟨by decide, by decide, by decide, by decide⟩, rfl⟩
    · intro pc lv st σ j hd hj k H locs ls hl hc hP hS
      refine va_sld hx hb hX hbl hbA hS (nI_in hj (by omega)) hd ?_
      rw [nI_clamp (by omega)]
      exact k H locs ls hl hc hP hS
    · intro pc lv st σ hd k H locs ls hl hc hP hS
      exact va_slen hx hb hX hbl hbA hS hd (k H locs ls hl hc hP hS)
    · intro pc lv σ hd H locs ls hl hc hP hS
      refine va_forget (fun q hq => hge _ (hS.2.2 q hq)) ?_
      exact W.widen (by decide) (by decide) (lw_ret hx hb hr hlocks hd)
  · intro k q hq
    cases hq
  · exact ⟨fun i j p q hi => (by cases hi), fun k q hq => (by cases hq)⟩
