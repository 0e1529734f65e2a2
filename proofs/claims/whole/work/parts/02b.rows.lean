/-! rows over a predicate K of pc, locals, stack, store: what the machine does in one method, its context hidden in Gd -/
abbrev Kt : Type := Nat → List Value → List Value → Sg → Prop
def Gd (l : Launch) (g : Gc) (own : String) (cc : ByteArray) (nL d : Nat) (K : Kt) : Prop :=
  ∃ (p : Program) (e : Env) (R : Room) (s : State) (m : MethodId) (args : Array Value) (below : List Frame) (meth : Method) (c : Code) (cells slots : Nat) (Q : State → Prop),
    p.tables.exec = Jvm.exec ∧ c.code = cc ∧ c.maxLocals = nL ∧ s.vm.findClass own = some m.cls ∧ (∀ w ∈ GW, w.before args s = true) ∧ va_K g.2.2.2 vwCl (tys g) s ∧ NW s ∧ Gok g ∧ (d ≤ R.frames ∧ 36 * d ≤ R.locals ∧ cells ≤ R.cells ∧ slots ≤ R.slots) ∧
    K = fun pc lv st σ => ∀ (H : Heap) (locs : List Loc) (ls : Array Slot), lv_has ls nL (lvi 0 lv) → (∀ v ∈ lv, v.category = 1) → va_P g.2.2.2 vwCl (wd g σ) H → va_S (Ag g) s.heap H locs → W p l e R s m args below meth c H locs cells slots Q (F0 m pc ls st)
def Rt (cc : ByteArray) (ret : Option FieldType) (K : Kt) (P : Option Value → Sg → Prop) : Prop := match ret with
  | none => ∀ (pc : Nat) (lv : List Value) (σ : Sg), decode cc pc = .ok (.return_, 1) → P none σ → K pc lv [] σ
  | some ty => (∀ (pc : Nat) (lv : List Value) (v : Int32) (σ : Sg), decode cc pc = .ok (.ireturn, 1) → narrow ty (.int v) = .int v → P (some (.int v)) σ → K pc lv [.int v] σ) ∧
      ∀ (pc : Nat) (lv : List Value) (a : Nat) (σ : Sg), decode cc pc = .ok (.areturn, 1) → ((∃ n, ty = .object n) ∨ ∃ t, ty = .array t) → P (some (.ref a)) σ → K pc lv [.ref a] σ
set_option maxHeartbeats 1000000 in
theorem ofK {l : Launch} {g : Gc} {y : MethodName} {bytes : ByteArray} {maxL d : Nat} {ret : Option FieldType} {av : List Value} {σ : Sg} {P : Option Value → Sg → Prop} (hg : Gok g) (hc : Cond.code y bytes maxL ret ∈ GW) (hml : maxL ≤ 17) (hpn : plainName y.cls = true) (hav : av.length ≤ maxL) (hcat : ∀ v ∈ av, v.category = 1)
    (body : ∀ K : Kt, Gd l g y.cls bytes maxL d K → Rt bytes ret K P → K 0 av [] σ) : Ct l g y d av σ P := by
  refine ⟨bytes, maxL, ret, hc, hml, ?_⟩
  refine Met.ofW (cc := bytes) (maxL := maxL) (ret := ret) hpn rfl ?_
  intro p e s m args below meth c s₁ B hmlc hv
  obtain ⟨rfl, hP, hK, hN⟩ := hv
  have hx := B.exec
  have hb := B.bytes
  have hr := B.returns
  have hts := atoms_spec (ws := Cond.code y bytes maxL ret :: GW) B.pre
  have hown : s.vm.findClass y.cls = some m.cls := findClass_of_methodNamed B.named
  have hlocks := B.notSynchronized
  have hl := lv_entry av (n := maxL) (by rw [lg_len av hcat]; exact hav)
  rw [lg_entry_eq]
  generalize (lg_sl av ++ List.replicate (maxL - (lg_sl av).length) Slot.unset).toArray = ls at hl ⊢
  rw [lvi_args av 0 hcat] at hl
  refine body (fun pc lv st σ => ∀ (H : Heap) (locs : List Loc) (ls : Array Slot), lv_has ls maxL (lvi 0 lv) → (∀ v ∈ lv, v.category = 1) → va_P g.2.2.2 vwCl (wd g σ) H → va_S (Ag g) s.heap H locs → W p l e (headSpec (Cond.code y bytes maxL ret :: GW) (rmd d)).room s m av.toArray below meth c H locs 0 0 (MQ below (Pst g P) av.toArray s 0 0 (Ag g)) (F0 m pc ls st)) ?_ ?_ s.heap [] ls hl hcat hP va_S.rf
  · exact ⟨p, e, _, s, m, av.toArray, below, meth, c, 0, 0, _, hx, hb, hmlc, hown, fun w hw => hts w (List.mem_cons_of_mem _ hw), hK, hN, hg, ⟨Nat.le_refl _, Nat.le_refl _, Nat.zero_le _, Nat.zero_le _⟩, rfl⟩
  · unfold Rt
    cases ret with
    | none =>
      intro pc lv σ' hd hp H locs ls hl hc hP hS
      exact W.vret hx hb hr (fun t ht hW => ⟨⟨none, σ', rfl, hp, by rw [ht]; exact hP⟩, hS.F ht⟩) hS.2.2 hd
    | some ty =>
      refine ⟨?_, ?_⟩
      · intro pc lv v σ' hd hn hp H locs ls hl hc hP hS
        exact W.zret hx hb hr hn (fun t ht hW => ⟨⟨some (.int v), σ', rfl, hp, by rw [ht]; exact hP⟩, hS.F ht⟩) hS.2.2 hd
      · intro pc lv a σ' hd hn hp H locs ls hl hc hP hS
        exact W.aret hx hb hr hn (Or.inr ⟨a, rfl⟩) (fun t ht hW => ⟨⟨some (.ref a), σ', rfl, hp, by rw [ht]; exact hP⟩, hS.F ht⟩) hS.2.2 hd
section Rows
variable {l : Launch} {g : Gc} {own : String} {cc : ByteArray} {nL d : Nat} {K : Kt} {pc : Nat} {lv st : List Value} {σ : Sg}
theorem r_iconst (hK : Gd l g own cc nL d K) {n : Int} {v : Int32} (hd : decode cc pc = .ok (.iconst n, 1)) (hv : Int32.ofInt n = v) (k : K (pc + 1) lv (.int v :: st) σ) : K pc lv (st) σ := by
  obtain ⟨p, e, R, s, m, args, below, meth, c, cells, slots, Q, hx, hb, hml, hown, hts, hk, hNW, hg, hRm, rfl⟩ := hK
  exact fun H locs ls hl hc hP hS => lv_iconst hx hb hd hv (k H locs ls hl hc hP hS)
theorem r_bipush (hK : Gd l g own cc nL d K) {n : Int} {v : Int32} (hd : decode cc pc = .ok (.bipush n, 2)) (hv : (Int8.ofInt n).toInt32 = v) (k : K (pc + 2) lv (.int v :: st) σ) : K pc lv (st) σ := by
  obtain ⟨p, e, R, s, m, args, below, meth, c, cells, slots, Q, hx, hb, hml, hown, hts, hk, hNW, hg, hRm, rfl⟩ := hK
  exact fun H locs ls hl hc hP hS => lv_bipush hx hb hd hv (k H locs ls hl hc hP hS)
theorem r_sipush (hK : Gd l g own cc nL d K) {n : Int} {v : Int32} (hd : decode cc pc = .ok (.sipush n, 3)) (hv : (Int16.ofInt n).toInt32 = v) (k : K (pc + 3) lv (.int v :: st) σ) : K pc lv (st) σ := by
  obtain ⟨p, e, R, s, m, args, below, meth, c, cells, slots, Q, hx, hb, hml, hown, hts, hk, hNW, hg, hRm, rfl⟩ := hK
  exact fun H locs ls hl hc hP hS => lv_sipush hx hb hd hv (k H locs ls hl hc hP hS)
theorem r_ldc (hK : Gd l g own cc nL d K) {i : Nat} {v : Int32} (hd : decode cc pc = .ok (.ldc i, 2)) (hv : Cond.constant own i v ∈ GW) (k : K (pc + 2) lv (.int v :: st) σ) : K pc lv (st) σ := by
  obtain ⟨p, e, R, s, m, args, below, meth, c, cells, slots, Q, hx, hb, hml, hown, hts, hk, hNW, hg, hRm, rfl⟩ := hK
  exact fun H locs ls hl hc hP hS => lv_ldc hx hb hown (hts _ hv) hd (k H locs ls hl hc hP hS)
theorem r_iload_n (hK : Gd l g own cc nL d K) {k : Fin 4} {i : Nat} {x : Int32} (hd : decode cc pc = .ok (.iload_n k, 1)) (hi : (k : Nat) = i) (hv : lv[i]? = some (.int x)) (k : K (pc + 1) lv (.int x :: st) σ) : K pc lv (st) σ := by
  obtain ⟨p, e, R, s, m, args, below, meth, c, cells, slots, Q, hx, hb, hml, hown, hts, hk, hNW, hg, hRm, rfl⟩ := hK
  exact fun H locs ls hl hc hP hS => lv_iload_n hx hb hd hi (lvi_at hl hv) (k H locs ls hl hc hP hS)
theorem r_iload (hK : Gd l g own cc nL d K) {i : Nat} {x : Int32} (hd : decode cc pc = .ok (.iload i, 2)) (hv : lv[i]? = some (.int x)) (k : K (pc + 2) lv (.int x :: st) σ) : K pc lv (st) σ := by
  obtain ⟨p, e, R, s, m, args, below, meth, c, cells, slots, Q, hx, hb, hml, hown, hts, hk, hNW, hg, hRm, rfl⟩ := hK
  exact fun H locs ls hl hc hP hS => lv_iload hx hb hd (lvi_at hl hv) (k H locs ls hl hc hP hS)
theorem r_istore_n (hK : Gd l g own cc nL d K) {k : Fin 4} {i : Nat} {x : Int32} (hd : decode cc pc = .ok (.istore_n k, 1)) (hi : (k : Nat) = i) (hn : Nat.ble i lv.length = true) (hL : Nat.blt i nL = true) (k : K (pc + 1) (stl lv i (.int x)) st σ) : K pc lv (.int x :: st) σ := by
  obtain ⟨p, e, R, s, m, args, below, meth, c, cells, slots, Q, hx, hb, hml, hown, hts, hk, hNW, hg, hRm, rfl⟩ := hK
  exact fun H locs ls hl hc hP hS => lv_istore_n hx hb hd hi hl (Nat.blt_eq.mp hL) rfl (fun ls1 h1 => k H locs ls1 (stl_has hc (Nat.le_of_ble_eq_true hn) h1) (stl_cat hc rfl) hP hS)
theorem r_istore (hK : Gd l g own cc nL d K) {i : Nat} {x : Int32} (hd : decode cc pc = .ok (.istore i, 2)) (hn : Nat.ble i lv.length = true) (hL : Nat.blt i nL = true) (k : K (pc + 2) (stl lv i (.int x)) st σ) : K pc lv (.int x :: st) σ := by
  obtain ⟨p, e, R, s, m, args, below, meth, c, cells, slots, Q, hx, hb, hml, hown, hts, hk, hNW, hg, hRm, rfl⟩ := hK
  exact fun H locs ls hl hc hP hS => lv_istore hx hb hd hl (Nat.blt_eq.mp hL) rfl (fun ls1 h1 => k H locs ls1 (stl_has hc (Nat.le_of_ble_eq_true hn) h1) (stl_cat hc rfl) hP hS)
theorem r_aload_n (hK : Gd l g own cc nL d K) {k : Fin 4} {i : Nat} {x : Nat} (hd : decode cc pc = .ok (.aload_n k, 1)) (hi : (k : Nat) = i) (hv : lv[i]? = some (.ref x)) (k : K (pc + 1) lv (.ref x :: st) σ) : K pc lv (st) σ := by
  obtain ⟨p, e, R, s, m, args, below, meth, c, cells, slots, Q, hx, hb, hml, hown, hts, hk, hNW, hg, hRm, rfl⟩ := hK
  exact fun H locs ls hl hc hP hS => lv_aload_n hx hb hd hi (lvi_at hl hv) (k H locs ls hl hc hP hS)
theorem r_aload (hK : Gd l g own cc nL d K) {i : Nat} {x : Nat} (hd : decode cc pc = .ok (.aload i, 2)) (hv : lv[i]? = some (.ref x)) (k : K (pc + 2) lv (.ref x :: st) σ) : K pc lv (st) σ := by
  obtain ⟨p, e, R, s, m, args, below, meth, c, cells, slots, Q, hx, hb, hml, hown, hts, hk, hNW, hg, hRm, rfl⟩ := hK
  exact fun H locs ls hl hc hP hS => lv_aload hx hb hd (lvi_at hl hv) (k H locs ls hl hc hP hS)
theorem r_astore_n (hK : Gd l g own cc nL d K) {k : Fin 4} {i : Nat} {x : Nat} (hd : decode cc pc = .ok (.astore_n k, 1)) (hi : (k : Nat) = i) (hn : Nat.ble i lv.length = true) (hL : Nat.blt i nL = true) (k : K (pc + 1) (stl lv i (.ref x)) st σ) : K pc lv (.ref x :: st) σ := by
  obtain ⟨p, e, R, s, m, args, below, meth, c, cells, slots, Q, hx, hb, hml, hown, hts, hk, hNW, hg, hRm, rfl⟩ := hK
  exact fun H locs ls hl hc hP hS => lv_astore_n hx hb hd hi hl (Nat.blt_eq.mp hL) rfl (fun ls1 h1 => k H locs ls1 (stl_has hc (Nat.le_of_ble_eq_true hn) h1) (stl_cat hc rfl) hP hS)
theorem r_astore (hK : Gd l g own cc nL d K) {i : Nat} {x : Nat} (hd : decode cc pc = .ok (.astore i, 2)) (hn : Nat.ble i lv.length = true) (hL : Nat.blt i nL = true) (k : K (pc + 2) (stl lv i (.ref x)) st σ) : K pc lv (.ref x :: st) σ := by
  obtain ⟨p, e, R, s, m, args, below, meth, c, cells, slots, Q, hx, hb, hml, hown, hts, hk, hNW, hg, hRm, rfl⟩ := hK
  exact fun H locs ls hl hc hP hS => lv_astore hx hb hd hl (Nat.blt_eq.mp hL) rfl (fun ls1 h1 => k H locs ls1 (stl_has hc (Nat.le_of_ble_eq_true hn) h1) (stl_cat hc rfl) hP hS)
theorem r_iinc (hK : Gd l g own cc nL d K) {i : Nat} {n : Int} {x v : Int32} (hd : decode cc pc = .ok (.iinc i n, 3)) (hx2 : lv[i]? = some (.int x)) (hv : x + Int32.ofInt n = v) (hL : Nat.blt i nL = true) (k : K (pc + 3) (stl lv i (.int v)) st σ) : K pc lv st σ := by
  obtain ⟨p, e, R, s, m, args, below, meth, c, cells, slots, Q, hx, hb, hml, hown, hts, hk, hNW, hg, hRm, rfl⟩ := hK
  have hle : i ≤ lv.length := Nat.le_of_lt (List.getElem?_eq_some_iff.mp hx2).1
  exact fun H locs ls hl hc hP hS => lv_iinc (k := i) hx hb hd hl (by rw [lvi_get, hx2]; simp) hv (Nat.blt_eq.mp hL) rfl (fun ls1 h1 => k H locs ls1 (stl_has hc hle h1) (stl_cat hc rfl) hP hS)
theorem r_iadd (hK : Gd l g own cc nL d K) {x y v : Int32} (hd : decode cc pc = .ok (.iadd, 1)) (hv : x + y = v) (k : K (pc + 1) lv (.int v :: st) σ) : K pc lv (.int y :: .int x :: st) σ := by
  obtain ⟨p, e, R, s, m, args, below, meth, c, cells, slots, Q, hx, hb, hml, hown, hts, hk, hNW, hg, hRm, rfl⟩ := hK
  subst hv
  exact fun H locs ls hl hc hP hS => lv_iadd hx hb hd (k H locs ls hl hc hP hS)
theorem r_isub (hK : Gd l g own cc nL d K) {x y v : Int32} (hd : decode cc pc = .ok (.isub, 1)) (hv : x - y = v) (k : K (pc + 1) lv (.int v :: st) σ) : K pc lv (.int y :: .int x :: st) σ := by
  obtain ⟨p, e, R, s, m, args, below, meth, c, cells, slots, Q, hx, hb, hml, hown, hts, hk, hNW, hg, hRm, rfl⟩ := hK
  subst hv
  exact fun H locs ls hl hc hP hS => lv_isub hx hb hd (k H locs ls hl hc hP hS)
theorem r_imul (hK : Gd l g own cc nL d K) {x y v : Int32} (hd : decode cc pc = .ok (.imul, 1)) (hv : x * y = v) (k : K (pc + 1) lv (.int v :: st) σ) : K pc lv (.int y :: .int x :: st) σ := by
  obtain ⟨p, e, R, s, m, args, below, meth, c, cells, slots, Q, hx, hb, hml, hown, hts, hk, hNW, hg, hRm, rfl⟩ := hK
  subst hv
  exact fun H locs ls hl hc hP hS => lv_imul hx hb hd (k H locs ls hl hc hP hS)
theorem r_iand (hK : Gd l g own cc nL d K) {x y v : Int32} (hd : decode cc pc = .ok (.iand, 1)) (hv : x &&& y = v) (k : K (pc + 1) lv (.int v :: st) σ) : K pc lv (.int y :: .int x :: st) σ := by
  obtain ⟨p, e, R, s, m, args, below, meth, c, cells, slots, Q, hx, hb, hml, hown, hts, hk, hNW, hg, hRm, rfl⟩ := hK
  subst hv
  exact fun H locs ls hl hc hP hS => lv_iand hx hb hd (k H locs ls hl hc hP hS)
theorem r_ishl (hK : Gd l g own cc nL d K) {x y v : Int32} (hd : decode cc pc = .ok (.ishl, 1)) (hv : x <<< (y &&& 31) = v) (k : K (pc + 1) lv (.int v :: st) σ) : K pc lv (.int y :: .int x :: st) σ := by
  obtain ⟨p, e, R, s, m, args, below, meth, c, cells, slots, Q, hx, hb, hml, hown, hts, hk, hNW, hg, hRm, rfl⟩ := hK
  subst hv
  exact fun H locs ls hl hc hP hS => lv_ishl hx hb hd (k H locs ls hl hc hP hS)
theorem r_ishr (hK : Gd l g own cc nL d K) {x y v : Int32} (hd : decode cc pc = .ok (.ishr, 1)) (hv : x >>> (y &&& 31) = v) (k : K (pc + 1) lv (.int v :: st) σ) : K pc lv (.int y :: .int x :: st) σ := by
  obtain ⟨p, e, R, s, m, args, below, meth, c, cells, slots, Q, hx, hb, hml, hown, hts, hk, hNW, hg, hRm, rfl⟩ := hK
  subst hv
  exact fun H locs ls hl hc hP hS => lv_ishr hx hb hd (k H locs ls hl hc hP hS)
theorem r_idiv (hK : Gd l g own cc nL d K) {x y v : Int32} (hd : decode cc pc = .ok (.idiv, 1)) (hne : ¬ y = 0) (hv : x / y = v) (k : K (pc + 1) lv (.int v :: st) σ) : K pc lv (.int y :: .int x :: st) σ := by
  obtain ⟨p, e, R, s, m, args, below, meth, c, cells, slots, Q, hx, hb, hml, hown, hts, hk, hNW, hg, hRm, rfl⟩ := hK
  subst hv
  exact fun H locs ls hl hc hP hS => lv_idiv hx hb hd hne (k H locs ls hl hc hP hS)
theorem r_irem (hK : Gd l g own cc nL d K) {x y v : Int32} (hd : decode cc pc = .ok (.irem, 1)) (hne : ¬ y = 0) (hv : x - x / y * y = v) (k : K (pc + 1) lv (.int v :: st) σ) : K pc lv (.int y :: .int x :: st) σ := by
  obtain ⟨p, e, R, s, m, args, below, meth, c, cells, slots, Q, hx, hb, hml, hown, hts, hk, hNW, hg, hRm, rfl⟩ := hK
  subst hv
  exact fun H locs ls hl hc hP hS => lv_irem hx hb hd hne (k H locs ls hl hc hP hS)
theorem r_ineg (hK : Gd l g own cc nL d K) {x v : Int32} (hd : decode cc pc = .ok (.ineg, 1)) (hv : -x = v) (k : K (pc + 1) lv (.int v :: st) σ) : K pc lv (.int x :: st) σ := by
  obtain ⟨p, e, R, s, m, args, below, meth, c, cells, slots, Q, hx, hb, hml, hown, hts, hk, hNW, hg, hRm, rfl⟩ := hK
  subst hv
  exact fun H locs ls hl hc hP hS => lv_ineg hx hb hd (k H locs ls hl hc hP hS)
theorem r_dup (hK : Gd l g own cc nL d K) {va : Value} (hd : decode cc pc = .ok (.dup, 1)) (hva : va.category = 1) (k : K (pc + 1) lv (va :: va :: st) σ) : K pc lv (va :: st) σ := by
  obtain ⟨p, e, R, s, m, args, below, meth, c, cells, slots, Q, hx, hb, hml, hown, hts, hk, hNW, hg, hRm, rfl⟩ := hK
  exact fun H locs ls hl hc hP hS => lv_dup hx hb hd hva (k H locs ls hl hc hP hS)
theorem r_pop (hK : Gd l g own cc nL d K) {va : Value} (hd : decode cc pc = .ok (.pop, 1)) (hva : va.category = 1) (k : K (pc + 1) lv (st) σ) : K pc lv (va :: st) σ := by
  obtain ⟨p, e, R, s, m, args, below, meth, c, cells, slots, Q, hx, hb, hml, hown, hts, hk, hNW, hg, hRm, rfl⟩ := hK
  exact fun H locs ls hl hc hP hS => lv_pop hx hb hd hva (k H locs ls hl hc hP hS)
theorem r_dup_x1 (hK : Gd l g own cc nL d K) {va vb : Value} (hd : decode cc pc = .ok (.dup_x1, 1)) (hva : va.category = 1) (hvb : vb.category = 1) (k : K (pc + 1) lv (va :: vb :: va :: st) σ) : K pc lv (va :: vb :: st) σ := by
  obtain ⟨p, e, R, s, m, args, below, meth, c, cells, slots, Q, hx, hb, hml, hown, hts, hk, hNW, hg, hRm, rfl⟩ := hK
  exact fun H locs ls hl hc hP hS => lv_dup_x1 hx hb hd hva hvb (k H locs ls hl hc hP hS)
theorem r_dup_x2 (hK : Gd l g own cc nL d K) {va vb vd : Value} (hd : decode cc pc = .ok (.dup_x2, 1)) (hva : va.category = 1) (hvb : vb.category = 1) (hvd : vd.category = 1) (k : K (pc + 1) lv (va :: vb :: vd :: va :: st) σ) : K pc lv (va :: vb :: vd :: st) σ := by
  obtain ⟨p, e, R, s, m, args, below, meth, c, cells, slots, Q, hx, hb, hml, hown, hts, hk, hNW, hg, hRm, rfl⟩ := hK
  exact fun H locs ls hl hc hP hS => lv_dup_x2 hx hb hd hva hvb hvd (k H locs ls hl hc hP hS)
theorem r_dup2 (hK : Gd l g own cc nL d K) {va vb : Value} (hd : decode cc pc = .ok (.dup2, 1)) (hva : va.category = 1) (hvb : vb.category = 1) (k : K (pc + 1) lv (va :: vb :: va :: vb :: st) σ) : K pc lv (va :: vb :: st) σ := by
  obtain ⟨p, e, R, s, m, args, below, meth, c, cells, slots, Q, hx, hb, hml, hown, hts, hk, hNW, hg, hRm, rfl⟩ := hK
  exact fun H locs ls hl hc hP hS => lv_dup2_11 hx hb hd hva hvb (k H locs ls hl hc hP hS)
theorem r_if_eq (hK : Gd l g own cc nL d K) {x : Int32} {off : Int} {tgt : Nat} (hd : decode cc pc = .ok (.ifCond .eq off, 3)) (ht : (pc : Int) + off = (tgt : Int)) (kt : x = 0 → K tgt lv st σ) (kf : ¬ x = 0 → K (pc + 3) lv st σ) : K pc lv (.int x :: st) σ := by
  obtain ⟨p, e, R, s, m, args, below, meth, c, cells, slots, Q, hx, hb, hml, hown, hts, hk, hNW, hg, hRm, rfl⟩ := hK
  exact fun H locs ls hl hc hP hS => lv_if_eq hx hb hd ht (fun q => kt q H locs ls hl hc hP hS) (fun q => kf q H locs ls hl hc hP hS)
theorem r_icmp_eq (hK : Gd l g own cc nL d K) {x y : Int32} {off : Int} {tgt : Nat} (hd : decode cc pc = .ok (.if_icmp .eq off, 3)) (ht : (pc : Int) + off = (tgt : Int)) (kt : x = y → K tgt lv st σ) (kf : ¬ x = y → K (pc + 3) lv st σ) : K pc lv (.int y :: .int x :: st) σ := by
  obtain ⟨p, e, R, s, m, args, below, meth, c, cells, slots, Q, hx, hb, hml, hown, hts, hk, hNW, hg, hRm, rfl⟩ := hK
  exact fun H locs ls hl hc hP hS => lv_icmp_eq hx hb hd ht (fun q => kt q H locs ls hl hc hP hS) (fun q => kf q H locs ls hl hc hP hS)
theorem r_if_ne (hK : Gd l g own cc nL d K) {x : Int32} {off : Int} {tgt : Nat} (hd : decode cc pc = .ok (.ifCond .ne off, 3)) (ht : (pc : Int) + off = (tgt : Int)) (kt : ¬ x = 0 → K tgt lv st σ) (kf : x = 0 → K (pc + 3) lv st σ) : K pc lv (.int x :: st) σ := by
  obtain ⟨p, e, R, s, m, args, below, meth, c, cells, slots, Q, hx, hb, hml, hown, hts, hk, hNW, hg, hRm, rfl⟩ := hK
  exact fun H locs ls hl hc hP hS => lv_if_ne hx hb hd ht (fun q => kt q H locs ls hl hc hP hS) (fun q => kf q H locs ls hl hc hP hS)
theorem r_icmp_ne (hK : Gd l g own cc nL d K) {x y : Int32} {off : Int} {tgt : Nat} (hd : decode cc pc = .ok (.if_icmp .ne off, 3)) (ht : (pc : Int) + off = (tgt : Int)) (kt : ¬ x = y → K tgt lv st σ) (kf : x = y → K (pc + 3) lv st σ) : K pc lv (.int y :: .int x :: st) σ := by
  obtain ⟨p, e, R, s, m, args, below, meth, c, cells, slots, Q, hx, hb, hml, hown, hts, hk, hNW, hg, hRm, rfl⟩ := hK
  exact fun H locs ls hl hc hP hS => lv_icmp_ne hx hb hd ht (fun q => kt q H locs ls hl hc hP hS) (fun q => kf q H locs ls hl hc hP hS)
theorem r_if_lt (hK : Gd l g own cc nL d K) {x : Int32} {off : Int} {tgt : Nat} (hd : decode cc pc = .ok (.ifCond .lt off, 3)) (ht : (pc : Int) + off = (tgt : Int)) (kt : x < 0 → K tgt lv st σ) (kf : ¬ x < 0 → K (pc + 3) lv st σ) : K pc lv (.int x :: st) σ := by
  obtain ⟨p, e, R, s, m, args, below, meth, c, cells, slots, Q, hx, hb, hml, hown, hts, hk, hNW, hg, hRm, rfl⟩ := hK
  exact fun H locs ls hl hc hP hS => lv_if_lt hx hb hd ht (fun q => kt q H locs ls hl hc hP hS) (fun q => kf q H locs ls hl hc hP hS)
theorem r_icmp_lt (hK : Gd l g own cc nL d K) {x y : Int32} {off : Int} {tgt : Nat} (hd : decode cc pc = .ok (.if_icmp .lt off, 3)) (ht : (pc : Int) + off = (tgt : Int)) (kt : x < y → K tgt lv st σ) (kf : ¬ x < y → K (pc + 3) lv st σ) : K pc lv (.int y :: .int x :: st) σ := by
  obtain ⟨p, e, R, s, m, args, below, meth, c, cells, slots, Q, hx, hb, hml, hown, hts, hk, hNW, hg, hRm, rfl⟩ := hK
  exact fun H locs ls hl hc hP hS => lv_icmp_lt hx hb hd ht (fun q => kt q H locs ls hl hc hP hS) (fun q => kf q H locs ls hl hc hP hS)
theorem r_if_ge (hK : Gd l g own cc nL d K) {x : Int32} {off : Int} {tgt : Nat} (hd : decode cc pc = .ok (.ifCond .ge off, 3)) (ht : (pc : Int) + off = (tgt : Int)) (kt : 0 ≤ x → K tgt lv st σ) (kf : ¬ 0 ≤ x → K (pc + 3) lv st σ) : K pc lv (.int x :: st) σ := by
  obtain ⟨p, e, R, s, m, args, below, meth, c, cells, slots, Q, hx, hb, hml, hown, hts, hk, hNW, hg, hRm, rfl⟩ := hK
  exact fun H locs ls hl hc hP hS => lv_if_ge hx hb hd ht (fun q => kt q H locs ls hl hc hP hS) (fun q => kf q H locs ls hl hc hP hS)
theorem r_icmp_ge (hK : Gd l g own cc nL d K) {x y : Int32} {off : Int} {tgt : Nat} (hd : decode cc pc = .ok (.if_icmp .ge off, 3)) (ht : (pc : Int) + off = (tgt : Int)) (kt : y ≤ x → K tgt lv st σ) (kf : ¬ y ≤ x → K (pc + 3) lv st σ) : K pc lv (.int y :: .int x :: st) σ := by
  obtain ⟨p, e, R, s, m, args, below, meth, c, cells, slots, Q, hx, hb, hml, hown, hts, hk, hNW, hg, hRm, rfl⟩ := hK
  exact fun H locs ls hl hc hP hS => lv_icmp_ge hx hb hd ht (fun q => kt q H locs ls hl hc hP hS) (fun q => kf q H locs ls hl hc hP hS)
theorem r_if_gt (hK : Gd l g own cc nL d K) {x : Int32} {off : Int} {tgt : Nat} (hd : decode cc pc = .ok (.ifCond .gt off, 3)) (ht : (pc : Int) + off = (tgt : Int)) (kt : 0 < x → K tgt lv st σ) (kf : ¬ 0 < x → K (pc + 3) lv st σ) : K pc lv (.int x :: st) σ := by
  obtain ⟨p, e, R, s, m, args, below, meth, c, cells, slots, Q, hx, hb, hml, hown, hts, hk, hNW, hg, hRm, rfl⟩ := hK
  exact fun H locs ls hl hc hP hS => lv_if_gt hx hb hd ht (fun q => kt q H locs ls hl hc hP hS) (fun q => kf q H locs ls hl hc hP hS)
theorem r_icmp_gt (hK : Gd l g own cc nL d K) {x y : Int32} {off : Int} {tgt : Nat} (hd : decode cc pc = .ok (.if_icmp .gt off, 3)) (ht : (pc : Int) + off = (tgt : Int)) (kt : y < x → K tgt lv st σ) (kf : ¬ y < x → K (pc + 3) lv st σ) : K pc lv (.int y :: .int x :: st) σ := by
  obtain ⟨p, e, R, s, m, args, below, meth, c, cells, slots, Q, hx, hb, hml, hown, hts, hk, hNW, hg, hRm, rfl⟩ := hK
  exact fun H locs ls hl hc hP hS => lv_icmp_gt hx hb hd ht (fun q => kt q H locs ls hl hc hP hS) (fun q => kf q H locs ls hl hc hP hS)
theorem r_if_le (hK : Gd l g own cc nL d K) {x : Int32} {off : Int} {tgt : Nat} (hd : decode cc pc = .ok (.ifCond .le off, 3)) (ht : (pc : Int) + off = (tgt : Int)) (kt : x ≤ 0 → K tgt lv st σ) (kf : ¬ x ≤ 0 → K (pc + 3) lv st σ) : K pc lv (.int x :: st) σ := by
  obtain ⟨p, e, R, s, m, args, below, meth, c, cells, slots, Q, hx, hb, hml, hown, hts, hk, hNW, hg, hRm, rfl⟩ := hK
  exact fun H locs ls hl hc hP hS => lv_if_le hx hb hd ht (fun q => kt q H locs ls hl hc hP hS) (fun q => kf q H locs ls hl hc hP hS)
theorem r_icmp_le (hK : Gd l g own cc nL d K) {x y : Int32} {off : Int} {tgt : Nat} (hd : decode cc pc = .ok (.if_icmp .le off, 3)) (ht : (pc : Int) + off = (tgt : Int)) (kt : x ≤ y → K tgt lv st σ) (kf : ¬ x ≤ y → K (pc + 3) lv st σ) : K pc lv (.int y :: .int x :: st) σ := by
  obtain ⟨p, e, R, s, m, args, below, meth, c, cells, slots, Q, hx, hb, hml, hown, hts, hk, hNW, hg, hRm, rfl⟩ := hK
  exact fun H locs ls hl hc hP hS => lv_icmp_le hx hb hd ht (fun q => kt q H locs ls hl hc hP hS) (fun q => kf q H locs ls hl hc hP hS)
theorem rn_icmp_eq (hK : Gd l g own cc nL d K) {a b : Nat} {off : Int} {tgt : Nat} (hd : decode cc pc = .ok (.if_icmp .eq off, 3)) (ht : (pc : Int) + off = (tgt : Int)) (ha : a < 2 ^ 31) (hb : b < 2 ^ 31) (kt : a = b → K tgt lv st σ) (kf : ¬ a = b → K (pc + 3) lv st σ) : K pc lv (.int (nI b) :: .int (nI a) :: st) σ :=
  r_icmp_eq hK hd ht (fun q => kt ((nI_eq ha hb).mp q)) (fun q => kf (fun z => q ((nI_eq ha hb).mpr z)))
theorem rn_icmp_ne (hK : Gd l g own cc nL d K) {a b : Nat} {off : Int} {tgt : Nat} (hd : decode cc pc = .ok (.if_icmp .ne off, 3)) (ht : (pc : Int) + off = (tgt : Int)) (ha : a < 2 ^ 31) (hb : b < 2 ^ 31) (kt : ¬ a = b → K tgt lv st σ) (kf : a = b → K (pc + 3) lv st σ) : K pc lv (.int (nI b) :: .int (nI a) :: st) σ :=
  r_icmp_ne hK hd ht (fun q => kt (fun z => q ((nI_eq ha hb).mpr z))) (fun q => kf ((nI_eq ha hb).mp q))
theorem rn_icmp_lt (hK : Gd l g own cc nL d K) {a b : Nat} {off : Int} {tgt : Nat} (hd : decode cc pc = .ok (.if_icmp .lt off, 3)) (ht : (pc : Int) + off = (tgt : Int)) (ha : a < 2 ^ 31) (hb : b < 2 ^ 31) (kt : a < b → K tgt lv st σ) (kf : b ≤ a → K (pc + 3) lv st σ) : K pc lv (.int (nI b) :: .int (nI a) :: st) σ :=
  r_icmp_lt hK hd ht (fun q => kt ((nI_ltI ha hb).mp q)) (fun q => kf (Nat.not_lt.mp (fun z => q ((nI_ltI ha hb).mpr z))))
theorem rn_icmp_ge (hK : Gd l g own cc nL d K) {a b : Nat} {off : Int} {tgt : Nat} (hd : decode cc pc = .ok (.if_icmp .ge off, 3)) (ht : (pc : Int) + off = (tgt : Int)) (ha : a < 2 ^ 31) (hb : b < 2 ^ 31) (kt : b ≤ a → K tgt lv st σ) (kf : a < b → K (pc + 3) lv st σ) : K pc lv (.int (nI b) :: .int (nI a) :: st) σ :=
  r_icmp_ge hK hd ht (fun q => kt ((nI_leI hb ha).mp q)) (fun q => kf (Nat.not_le.mp (fun z => q ((nI_leI hb ha).mpr z))))
theorem rn_icmp_gt (hK : Gd l g own cc nL d K) {a b : Nat} {off : Int} {tgt : Nat} (hd : decode cc pc = .ok (.if_icmp .gt off, 3)) (ht : (pc : Int) + off = (tgt : Int)) (ha : a < 2 ^ 31) (hb : b < 2 ^ 31) (kt : b < a → K tgt lv st σ) (kf : a ≤ b → K (pc + 3) lv st σ) : K pc lv (.int (nI b) :: .int (nI a) :: st) σ :=
  r_icmp_gt hK hd ht (fun q => kt ((nI_ltI hb ha).mp q)) (fun q => kf (Nat.not_lt.mp (fun z => q ((nI_ltI hb ha).mpr z))))
theorem rn_icmp_le (hK : Gd l g own cc nL d K) {a b : Nat} {off : Int} {tgt : Nat} (hd : decode cc pc = .ok (.if_icmp .le off, 3)) (ht : (pc : Int) + off = (tgt : Int)) (ha : a < 2 ^ 31) (hb : b < 2 ^ 31) (kt : a ≤ b → K tgt lv st σ) (kf : b < a → K (pc + 3) lv st σ) : K pc lv (.int (nI b) :: .int (nI a) :: st) σ :=
  r_icmp_le hK hd ht (fun q => kt ((nI_leI ha hb).mp q)) (fun q => kf (Nat.not_le.mp (fun z => q ((nI_leI ha hb).mpr z))))
theorem rn_if_eq (hK : Gd l g own cc nL d K) {a : Nat} {off : Int} {tgt : Nat} (hd : decode cc pc = .ok (.ifCond .eq off, 3)) (ht : (pc : Int) + off = (tgt : Int)) (ha : a < 2 ^ 31) (kt : a = 0 → K tgt lv st σ) (kf : ¬ a = 0 → K (pc + 3) lv st σ) : K pc lv (.int (nI a) :: st) σ :=
  r_if_eq hK hd ht (fun q => kt ((nI_eq ha (by decide)).mp (q.trans nI_0.symm))) (fun q => kf (fun z => q (by rw [z]; exact nI_0)))
theorem rn_if_ne (hK : Gd l g own cc nL d K) {a : Nat} {off : Int} {tgt : Nat} (hd : decode cc pc = .ok (.ifCond .ne off, 3)) (ht : (pc : Int) + off = (tgt : Int)) (ha : a < 2 ^ 31) (kt : ¬ a = 0 → K tgt lv st σ) (kf : a = 0 → K (pc + 3) lv st σ) : K pc lv (.int (nI a) :: st) σ :=
  r_if_ne hK hd ht (fun q => kt (fun z => q (by rw [z]; exact nI_0))) (fun q => kf ((nI_eq ha (by decide)).mp (q.trans nI_0.symm)))
theorem r_goto (hK : Gd l g own cc nL d K) {off : Int} {tgt : Nat} (hd : decode cc pc = .ok (.goto off, 3)) (ht : (pc : Int) + off = (tgt : Int)) (k : K tgt lv st σ) : K pc lv st σ := by
  obtain ⟨p, e, R, s, m, args, below, meth, c, cells, slots, Q, hx, hb, hml, hown, hts, hk, hNW, hg, hRm, rfl⟩ := hK
  exact fun H locs ls hl hc hP hS => lv_goto hx hb hd ht (k H locs ls hl hc hP hS)
theorem r_lookup (hK : Gd l g own cc nL d K) {dflt : Int} {ps : Array (Int × Int)} {len : Nat} {x : Int32} {off : Int} {tgt : Nat} (hd : decode cc pc = .ok (.lookupswitch dflt ps, len)) (hp : (ps.toList.zip (ps.toList.drop 1)).all (fun (a, next) => a.1 < next.1) = true) (ho : Op.lookupswitch.offset ps.toList dflt x.toInt = off) (ht : (pc : Int) + off = (tgt : Int)) (k : K tgt lv st σ) : K pc lv (.int x :: st) σ := by
  obtain ⟨p, e, R, s, m, args, below, meth, c, cells, slots, Q, hx, hb, hml, hown, hts, hk, hNW, hg, hRm, rfl⟩ := hK
  exact fun H locs ls hl hc hP hS => lv_lookup hx hb hd hp ho ht (k H locs ls hl hc hP hS)
theorem r_tableOut (hK : Gd l g own cc nL d K) {dflt lo hi : Int} {offs : Array Int} {len : Nat} {x : Int32} {tgt : Nat} (hd : decode cc pc = .ok (.tableswitch dflt lo hi offs, len)) (h : x.toInt < lo ∨ hi < x.toInt) (ht : (pc : Int) + dflt = (tgt : Int)) (k : K tgt lv st σ) : K pc lv (.int x :: st) σ := by
  obtain ⟨p, e, R, s, m, args, below, meth, c, cells, slots, Q, hx, hb, hml, hown, hts, hk, hNW, hg, hRm, rfl⟩ := hK
  exact fun H locs ls hl hc hP hS => lv_tableOut hx hb hd h ht (k H locs ls hl hc hP hS)
theorem r_tableIn (hK : Gd l g own cc nL d K) {dflt lo hi : Int} {offs : Array Int} {len : Nat} {x : Int32} {off : Int} {tgt : Nat} (hd : decode cc pc = .ok (.tableswitch dflt lo hi offs, len)) (h1 : ¬ x.toInt < lo) (h2 : ¬ hi < x.toInt) (ho : offs[(x.toInt - lo).toNat]? = some off) (ht : (pc : Int) + off = (tgt : Int)) (k : K tgt lv st σ) : K pc lv (.int x :: st) σ := by
  obtain ⟨p, e, R, s, m, args, below, meth, c, cells, slots, Q, hx, hb, hml, hown, hts, hk, hNW, hg, hRm, rfl⟩ := hK
  exact fun H locs ls hl hc hP hS => lv_tableIn hx hb hd h1 h2 ho ht (k H locs ls hl hc hP hS)
theorem r_less (hK : Gd l g own cc nL d K) (lv2 : List Value) (hp : ∀ (i : Nat) (v : Value), lv2[i]? = some v → lv[i]? = some v) (k : K pc lv2 st σ) : K pc lv st σ := by
  obtain ⟨p, e, R, s, m, args, below, meth, c, cells, slots, Q, hx, hb, hml, hown, hts, hk, hNW, hg, hRm, rfl⟩ := hK
  exact fun H locs ls hl hc hP hS => k H locs ls (lvi_take hl hp) (fun v hv => by
    obtain ⟨i, hi⟩ := List.mem_iff_getElem?.mp hv
    exact hc v (List.mem_of_getElem? (hp i v hi))) hP hS
theorem r_drop (n : Nat) (hK : Gd l g own cc nL d K) (k : K pc (lv.take n) st σ) : K pc lv st σ := r_less hK (lv.take n) (fun i v h => by
  rw [List.getElem?_take] at h
  split at h
  · exact h
  · cases h) k
/-- a field reference: class own, pool index; class number, place, type, final -/
def Fl (own : String) (idx ci j : Nat) (ty : FieldType) (fin : Bool) : Prop :=
  ∃ (C : String) (T : u_T) (N : Nat) (ty0 : Nat → FieldType), vwCl[ci]? = some (C, T, N) ∧ j < N ∧ (∀ w ∈ u_ws C T N, w ∈ GW) ∧ (∀ k, k < N → parseFieldDescriptor (T k).2.2.1 = some (ty0 k)) ∧ (∀ a, a < N → ∀ b, b < N → a ≠ b → (T a).2.1 ≠ (T b).2.1) ∧ parseFieldDescriptor (T j).2.2.1 = some ty ∧ (T j).2.2.2 = fin ∧
    (Cond.fieldLink own idx (T j).1 (T j).2.1 (T j).2.2.1 ∈ GW ∨ ∃ host, (own, idx, (T j).1, (T j).2.1, (T j).2.2.1, host) ∈ NF)
theorem r_getV (hK : Gd l g own cc nL d K) {idx ci j k n N : Nat} {ty : FieldType} {fin : Bool} {v : Value} (hd : decode cc pc = .ok (.getfield idx, 3)) (hf : Fl own idx ci j ty fin) (ho : oc k = some (ci, N)) (hi : Inn g.2.1 k n) (hv : (fds g k n N (σ k n))[j]? = some v) (kk : K (pc + 3) lv (v :: st) σ) : K pc lv (.ref (g.1 k n) :: st) σ := by
  obtain ⟨p, e, R, s, m, args, below, meth, c, cells, slots, Q, hx, hb, hml, hown, hts, hk, hNW, hg, hRm, rfl⟩ := hK
  obtain ⟨C, T, N', ty0, hcl, hj, hin, hty, hnm, hd2, hfin, hlk⟩ := hf
  intro H locs ls hl hc hP hS
  obtain ⟨q0, hq, -⟩ := wd_at g σ hi
  rw [cell_o ho] at hq
  rcases hlk with hlk | ⟨host, hlk⟩
  · exact va_get hx hb hts hin hown hk hP q0 hq hcl j hj (hts _ hlk) (fun _ h9 => h9) hv hd (kk H locs ls hl hc hP hS)
  · exact va_getN hx hb hts hin hown hk hP q0 hq hcl j hj ((hNW.1 _ hlk).use rfl) (fun _ h9 => h9) hv hd (kk H locs ls hl hc hP hS)
theorem r_getI (hK : Gd l g own cc nL d K) {idx ci j k n N : Nat} {ty : FieldType} {fin : Bool} {v : Int32} (hd : decode cc pc = .ok (.getfield idx, 3)) (hf : Fl own idx ci j ty fin) (ho : oc k = some (ci, N)) (hi : Inn g.2.1 k n) (hj : Nat.blt j N = true) (hr : rf k n j = none) (hv : σ k n j = v) (kk : K (pc + 3) lv (.int v :: st) σ) : K pc lv (.ref (g.1 k n) :: st) σ :=
  r_getV hK hd hf ho hi (by rw [fds_get (Nat.blt_eq.mp hj), hr, hv]) kk
theorem r_getR (hK : Gd l g own cc nL d K) {idx ci j k n N k' n' : Nat} {ty : FieldType} {fin : Bool} (hd : decode cc pc = .ok (.getfield idx, 3)) (hf : Fl own idx ci j ty fin) (ho : oc k = some (ci, N)) (hi : Inn g.2.1 k n) (hj : Nat.blt j N = true) (hr : rf k n j = some (k', n')) (kk : K (pc + 3) lv (.ref (g.1 k' n') :: st) σ) : K pc lv (.ref (g.1 k n) :: st) σ :=
  r_getV hK hd hf ho hi (by rw [fds_get (Nat.blt_eq.mp hj), hr]) kk
theorem r_putI (hK : Gd l g own cc nL d K) {idx ci j k n N : Nat} {ty : FieldType} {v : Int32} (hd : decode cc pc = .ok (.putfield idx, 3)) (hf : Fl own idx ci j ty false) (ho : oc k = some (ci, N)) (hi : Inn g.2.1 k n) (hj : Nat.blt j N = true) (hr : rf k n j = none) (hnar : narrow ty (.int v) = .int v) (hfit : fits ty (.int v) = true) (kk : K (pc + 3) lv st (up σ k n j v)) : K pc lv (.int v :: .ref (g.1 k n) :: st) σ := by
  obtain ⟨p, e, R, s, m, args, below, meth, c, cells, slots, Q, hx, hb, hml, hown, hts, hk, hNW, hg, hRm, rfl⟩ := hK
  obtain ⟨C, T, N', ty0, hcl, hj', hin, hty, hnm, hd2, hfin, hlk⟩ := hf
  intro H locs ls hl hc hP hS
  obtain ⟨q0, hq, hq2⟩ := wd_at g σ hi
  have hset : (wd g σ).set q0 (g.1 k n, .inr (ci, (fds g k n N (σ k n)).set j (.int v))) = wd g (up σ k n j v) := by
    rw [fds_set hr, ← cell_o ho, wd_set hg hq2]
    rfl
  rw [cell_o ho] at hq
  rcases hlk with hlk | ⟨host, hlk⟩
  · refine va_put hx hb hts hin ty0 hty hnm hown hk hP (hg σ) hS q0 hq hcl j hj' (hts _ hlk) (fun _ h9 => h9) hfin hd2 hnar hfit (by rw [fds_len]; exact Nat.blt_eq.mp hj) hd (fun H1 locs1 h1 _ h3 => ?_)
    rw [hset] at h1
    exact kk H1 locs1 ls hl hc h1 h3
  · refine va_putN hx hb hts hin ty0 hty hnm hown hk hP (hg σ) hS q0 hq hcl j hj' ((hNW.1 _ hlk).use rfl) (fun _ h9 => h9) hfin hd2 hnar hfit (by rw [fds_len]; exact Nat.blt_eq.mp hj) hd (fun H1 locs1 h1 _ h3 => ?_)
    rw [hset] at h1
    exact kk H1 locs1 ls hl hc h1 h3
/-- an index: the int i is the place j -/
def Ix (i : Int32) (j : Nat) : Prop := ¬ i < 0 ∧ i.toNatClampNeg = j
theorem ix_in {i : Int32} {j n : Nat} (h : Ix i j) (hn : j < n) : vp_in i n := fun q => by
  rcases q with q | q
  · exact h.1 q
  · rw [h.2] at q
    omega
theorem r_iald (hK : Gd l g own cc nL d K) {i v : Int32} {j k n : Nat} (hd : decode cc pc = .ok (.iaload, 1)) (ho : oc k = none) (ha : aty k = 0) (hi : Inn g.2.1 k n) (hx2 : Ix i j) (hj : j < al g.2.1 k) (hv : σ k n j = v) (kk : K (pc + 1) lv (.int v :: st) σ) : K pc lv (.int i :: .ref (g.1 k n) :: st) σ := by
  obtain ⟨p, e, R, s, m, args, below, meth, c, cells, slots, Q, hx, hb, hml, hown, hts, hk, hNW, hg, hRm, rfl⟩ := hK
  intro H locs ls hl hc hP hS
  obtain ⟨q0, hq, -⟩ := wd_at g σ hi
  rw [cell_a ho, arq_i ha, ha] at hq
  refine va_iald hx hb hk hP q0 0 hq rfl (ix_in hx2 hj) hd ?_
  rw [hx2.2, hv]
  exact kk H locs ls hl hc hP hS
theorem r_zald (hK : Gd l g own cc nL d K) {i v : Int32} {j k n : Nat} (hd : decode cc pc = .ok (.baload, 1)) (ho : oc k = none) (ha : aty k = 1) (hi : Inn g.2.1 k n) (hx2 : Ix i j) (hj : j < al g.2.1 k) (hv : σ k n j = v) (kk : K (pc + 1) lv (.int v :: st) σ) : K pc lv (.int i :: .ref (g.1 k n) :: st) σ := by
  obtain ⟨p, e, R, s, m, args, below, meth, c, cells, slots, Q, hx, hb, hml, hown, hts, hk, hNW, hg, hRm, rfl⟩ := hK
  intro H locs ls hl hc hP hS
  obtain ⟨q0, hq, -⟩ := wd_at g σ hi
  rw [cell_a ho, arq_z ha, ha] at hq
  refine va_zald hx hb hk hP q0 1 hq rfl (ix_in hx2 hj) hd ?_
  rw [hx2.2, hv]
  exact kk H locs ls hl hc hP hS
theorem r_iast (hK : Gd l g own cc nL d K) {i x : Int32} {j k n : Nat} (hd : decode cc pc = .ok (.iastore, 1)) (ho : oc k = none) (ha : aty k = 0) (hi : Inn g.2.1 k n) (hx2 : Ix i j) (hj : j < al g.2.1 k) (kk : K (pc + 1) lv st (up σ k n j x)) : K pc lv (.int x :: .int i :: .ref (g.1 k n) :: st) σ := by
  obtain ⟨p, e, R, s, m, args, below, meth, c, cells, slots, Q, hx, hb, hml, hown, hts, hk, hNW, hg, hRm, rfl⟩ := hK
  intro H locs ls hl hc hP hS
  obtain ⟨q0, hq, hq2⟩ := wd_at g σ hi
  have hset : (wd g σ).set q0 (g.1 k n, .inl (g.2.2.1 0, al g.2.1 k, .inl (upd (σ k n) j x))) = wd g (up σ k n j x) := by
    rw [show (up σ k n j x) = upr σ k n (upd (σ k n) j x) from rfl, ← wd_set hg hq2, cell_a ho, arq_i ha, ha]
  rw [cell_a ho, arq_i ha, ha] at hq
  refine va_iast hx hb hk hP (hg σ) hS q0 0 hq rfl (ix_in hx2 hj) hd (fun H1 locs1 h1 _ h3 => ?_)
  rw [hx2.2, hset] at h1
  exact kk H1 locs1 ls hl hc h1 h3
theorem r_zast (hK : Gd l g own cc nL d K) {i x : Int32} {j k n : Nat} (hd : decode cc pc = .ok (.bastore, 1)) (ho : oc k = none) (ha : aty k = 1) (hi : Inn g.2.1 k n) (hx2 : Ix i j) (hj : j < al g.2.1 k) (hz : vp_nar .boolean x = x) (kk : K (pc + 1) lv st (up σ k n j x)) : K pc lv (.int x :: .int i :: .ref (g.1 k n) :: st) σ := by
  obtain ⟨p, e, R, s, m, args, below, meth, c, cells, slots, Q, hx, hb, hml, hown, hts, hk, hNW, hg, hRm, rfl⟩ := hK
  intro H locs ls hl hc hP hS
  obtain ⟨q0, hq, hq2⟩ := wd_at g σ hi
  have hset : (wd g σ).set q0 (g.1 k n, .inl (g.2.2.1 1, al g.2.1 k, .inl (upd (σ k n) j x))) = wd g (up σ k n j x) := by
    rw [show (up σ k n j x) = upr σ k n (upd (σ k n) j x) from rfl, ← wd_set hg hq2, cell_a ho, arq_z ha, ha]
  rw [cell_a ho, arq_z ha, ha] at hq
  refine va_zast hx hb hk hP (hg σ) hS q0 1 hq rfl (ix_in hx2 hj) hd (fun H1 locs1 h1 _ h3 => ?_)
  rw [hx2.2, hz, hset] at h1
  exact kk H1 locs1 ls hl hc h1 h3
theorem r_aald (hK : Gd l g own cc nL d K) {i : Int32} {j k n k' n' : Nat} (hd : decode cc pc = .ok (.aaload, 1)) (ho : oc k = none) (ha : aty k = 2 ∨ aty k = 3) (hi : Inn g.2.1 k n) (hx2 : Ix i j) (hj : j < al g.2.1 k) (he : el k n j = (k', n')) (kk : K (pc + 1) lv (.ref (g.1 k' n') :: st) σ) : K pc lv (.int i :: .ref (g.1 k n) :: st) σ := by
  obtain ⟨p, e, R, s, m, args, below, meth, c, cells, slots, Q, hx, hb, hml, hown, hts, hk, hNW, hg, hRm, rfl⟩ := hK
  intro H locs ls hl hc hP hS
  obtain ⟨q0, hq, -⟩ := wd_at g σ hi
  rw [cell_a ho, arq_r (by omega)] at hq
  rcases ha with ha | ha
  · rw [ha] at hq
    refine va_aldq hx hb hk hP q0 2 hq rfl (ix_in hx2 hj) hd ?_
    rw [hx2.2, he]
    exact kk H locs ls hl hc hP hS
  · rw [ha] at hq
    refine va_aldq hx hb hk hP q0 3 hq rfl (ix_in hx2 hj) hd ?_
    rw [hx2.2, he]
    exact kk H locs ls hl hc hP hS
theorem r_alen (hK : Gd l g own cc nL d K) {k n : Nat} (hd : decode cc pc = .ok (.arraylength, 1)) (ho : oc k = none) (ha : Nat.blt (aty k) 4 = true) (hi : Inn g.2.1 k n) (kk : K (pc + 1) lv (.int (nI (al g.2.1 k)) :: st) σ) : K pc lv (.ref (g.1 k n) :: st) σ := by
  obtain ⟨p, e, R, s, m, args, below, meth, c, cells, slots, Q, hx, hb, hml, hown, hts, hk, hNW, hg, hRm, rfl⟩ := hK
  intro H locs ls hl hc hP hS
  obtain ⟨q0, hq, -⟩ := wd_at g σ hi
  rw [cell_a ho] at hq
  have h4 : aty k < 4 := Nat.blt_eq.mp ha
  rcases (by omega : aty k = 0 ∨ aty k = 1 ∨ aty k = 2 ∨ aty k = 3) with h | h | h | h <;> rw [h] at hq
  · exact va_alen hx hb hk hP q0 0 hq rfl rfl hd (kk H locs ls hl hc hP hS)
  · exact va_alen hx hb hk hP q0 1 hq rfl rfl hd (kk H locs ls hl hc hP hS)
  · exact va_alen hx hb hk hP q0 2 hq rfl rfl hd (kk H locs ls hl hc hP hS)
  · exact va_alen hx hb hk hP q0 3 hq rfl rfl hd (kk H locs ls hl hc hP hS)
theorem r_copy (hK : Gd l g own cc nL d K) {idx : Nat} {sp dp n : Int32} {j0 j1 jn k0 n0 k1 n1 : Nat} (hd : decode cc pc = .ok (.invokestatic idx, 3)) (hw : Cond.methodLink own idx arraycopyName ∈ GW ∧ Cond.native arraycopyName ∈ GW ∧ Cond.static arraycopyName ∈ GW ∧ Cond.initialized "java/lang/System" ∈ GW) (hd1 : 1 ≤ d) (ho0 : oc k0 = none) (ha0 : aty k0 = 0) (ho1 : oc k1 = none) (ha1 : aty k1 = 0) (hi0 : Inn g.2.1 k0 n0) (hi1 : Inn g.2.1 k1 n1) (hs : Ix sp j0) (hdp : Ix dp j1) (hnn : Ix n jn) (h4 : j0 + jn ≤ al g.2.1 k0) (h5 : j1 + jn ≤ al g.2.1 k1) (hst : (st.map fun v => v.category).sum ≤ 8) (kk : K (pc + 3) lv st (upr σ k1 n1 (va_cpy (σ k0 n0) (σ k1 n1) j0 j1 jn))) : K pc lv (.int n :: .int dp :: .ref (g.1 k1 n1) :: .int sp :: .ref (g.1 k0 n0) :: st) σ := by
  obtain ⟨p, e, R, s, m, args, below, meth, c, cells, slots, Q, hx, hb, hml, hown, hts, hk, hNW, hg, hRm, rfl⟩ := hK
  intro H locs ls hl hc hP hS
  obtain ⟨q0, hq, -⟩ := wd_at g σ hi0
  obtain ⟨q1, hqq, hqq2⟩ := wd_at g σ hi1
  have hset : (wd g σ).set q1 (g.1 k1 n1, .inl (g.2.2.1 0, al g.2.1 k1, .inl (va_cpy (σ k0 n0) (σ k1 n1) j0 j1 jn))) = wd g (upr σ k1 n1 (va_cpy (σ k0 n0) (σ k1 n1) j0 j1 jn)) := by
    rw [← wd_set hg hqq2, cell_a ho1, arq_i ha1, ha1]
  rw [cell_a ho0, arq_i ha0, ha0] at hq
  rw [cell_a ho1, arq_i ha1, ha1] at hqq
  refine va_copyi hx hb (hml.trans hl.1.symm) hown (hts _ hw.1) (hts _ hw.2.1) (hts _ hw.2.2.1) (hts _ hw.2.2.2) hk hP (hg σ) hS q0 q1 0 0 hq hqq rfl rfl rfl hs.1 hdp.1 hnn.1 (by rw [hs.2, hnn.2]; exact h4) (by rw [hdp.2, hnn.2]; exact h5) (fun i _ => rfl) (Nat.le_trans hd1 hRm.1) ?_ hd (fun H1 locs1 h1 _ h3 => ?_)
  · have h36 : nativeFrameWords "java/lang/System" "arraycopy" 5 + 11 ≤ 28 := by decide +kernel
    have := hRm.2.1
    omega
  · rw [hs.2, hdp.2, hnn.2, hset] at h1
    exact kk H1 locs1 ls hl hc h1 h3
theorem r_mmax (hK : Gd l g own cc nL d K) {idx : Nat} {x y : Int32} (hd : decode cc pc = .ok (.invokestatic idx, 3)) (hw : Cond.methodLink own idx Lib.Math.max.name ∈ GW ∧ Cond.static Lib.Math.max.name ∈ GW ∧ Cond.initialized "java/lang/Math" ∈ GW ∧ Cond.code Lib.Math.max.name Lib.Math.max.code 2 (some .int) ∈ GW) (hd1 : 1 ≤ d) (hst : (st.map fun v => v.category).sum ≤ 8) (kk : K (pc + 3) lv (.int (if x < y then y else x) :: st) σ) : K pc lv (.int y :: .int x :: st) σ := by
  obtain ⟨p, e, R, s, m, args, below, meth, c, cells, slots, Q, hx, hb, hml, hown, hts, hk, hNW, hg, hRm, rfl⟩ := hK
  intro H locs ls hl hc hP hS
  have h36 := hRm.2.1
  exact va_mmax hx hb (hml.trans hl.1.symm) hown (hts _ hw.1) (hts _ hw.2.1) (hts _ hw.2.2.1) (hts _ hw.2.2.2) (Nat.le_trans hd1 hRm.1) (by omega) hRm.2.2.1 hRm.2.2.2 hd (kk H locs ls hl hc hP hS)
theorem r_mmin (hK : Gd l g own cc nL d K) {idx : Nat} {x y : Int32} (hd : decode cc pc = .ok (.invokestatic idx, 3)) (hw : Cond.methodLink own idx Lib.Math.min.name ∈ GW ∧ Cond.static Lib.Math.min.name ∈ GW ∧ Cond.initialized "java/lang/Math" ∈ GW ∧ Cond.code Lib.Math.min.name Lib.Math.min.code 2 (some .int) ∈ GW) (hd1 : 1 ≤ d) (hst : (st.map fun v => v.category).sum ≤ 8) (kk : K (pc + 3) lv (.int (if y < x then y else x) :: st) σ) : K pc lv (.int y :: .int x :: st) σ := by
  obtain ⟨p, e, R, s, m, args, below, meth, c, cells, slots, Q, hx, hb, hml, hown, hts, hk, hNW, hg, hRm, rfl⟩ := hK
  intro H locs ls hl hc hP hS
  have h36 := hRm.2.1
  exact va_mmin hx hb (hml.trans hl.1.symm) hown (hts _ hw.1) (hts _ hw.2.1) (hts _ hw.2.2.1) (hts _ hw.2.2.2) (Nat.le_trans hd1 hRm.1) (by omega) hRm.2.2.1 hRm.2.2.2 hd (kk H locs ls hl hc hP hS)
def Mv (own : String) (idx : Nat) (y : MethodName) (n ci : Nat) : Prop :=
  (∃ T N, vwCl[ci]? = some (y.cls, T, N)) ∧ (Cond.methodLink own idx y ∈ GW ∨ ∃ host, (own, idx, y, host) ∈ NM) ∧ Cond.instanceMethod y ∈ GW ∧ Cond.selects y.cls y y ∈ GW ∧ Cond.initialized y.cls ∈ GW ∧ (y.cls ≠ "java/lang/invoke/MethodHandle" ∧ y.cls ≠ "java/lang/invoke/VarHandle" ∧ (parseMethodDescriptor y.desc).map (fun d => d.parameters.length) = some n)
def Ms (own : String) (idx : Nat) (y : MethodName) (n : Nat) : Prop :=
  (Cond.methodLink own idx y ∈ GW ∨ ∃ host, (own, idx, y, host) ∈ NM) ∧ Cond.static y ∈ GW ∧ Cond.initialized y.cls ∈ GW ∧ (y.cls ≠ "java/lang/invoke/MethodHandle" ∧ y.cls ≠ "java/lang/invoke/VarHandle" ∧ (parseMethodDescriptor y.desc).map (fun d => d.parameters.length) = some n)
theorem callX {p : Program} {l : Launch} {e : Env} {R : Room} {s : State} {m : MethodId} {args : Array Value} {below : List Frame} {meth : Method} {c : Code} {H : Heap} {locs : List Loc} {cells slots : Nat} {Q : State → Prop} {pc : Nat} {ls : Array Slot} {rest st0 : List Value} {a : Array Value} {g : Gc} {P : Option Value → Sg → Prop}
    (hr : va_Run p l e R s m args below meth c H locs cells slots 0 0 (F0 m pc ls st0) rest (Pst g P a) (Ag g)) (hS : va_S (Ag g) s.heap H locs)
    (kk : ∀ (r : Option Value) (τ : Sg) (H1 : Heap) (locs1 : List Loc), P r τ → va_P g.2.2.2 vwCl (wd g τ) H1 → va_S (Ag g) s.heap H1 locs1 → W p l e R s m args below meth c H1 locs1 cells slots Q (F0 m (pc + 3) ls (r.toList ++ rest))) : W p l e R s m args below meth c H locs cells slots Q (F0 m pc ls st0) := by
  intro T hT X
  obtain ⟨v, st₀, t, T', L, h0, X', hL, e1, e2, ⟨⟨r, τ, hv, hp, hw⟩, hz, hk⟩, st⟩ := hr T hT X
  cases hv
  rw [h0] at hz hk
  obtain ⟨t2, a1, b1⟩ := kk v τ T'.heap (locs ++ L) hp (by rw [e1]; exact hw)
    ⟨Nat.le_trans hS.1 (by rw [e1]; exact hz), fun q h1 h2 => by rw [e1, hk q (Nat.lt_of_lt_of_le h1 hS.1) h2]; exact hS.2.1 q h1 h2, fun q hq => by
      rcases List.mem_append.mp hq with h | h
      · exact hS.2.2 q h
      · exact hL q h⟩ T' rfl X'
  exact ⟨t2, st t2 a1, b1⟩
set_option maxHeartbeats 1000000 in
theorem r_callV (hK : Gd l g own cc nL d K) {y : MethodName} {d' idx na ci k n N : Nat} {As rest : List Value} {P : Option Value → Sg → Prop} (hd : decode cc pc = .ok (.invokevirtual idx, 3)) (hm : Mv own idx y na ci) (ho : oc k = some (ci, N)) (hi : Inn g.2.1 k n) (hC : Ct l g y d' (.ref (g.1 k n) :: As) σ P) (hdd : d' < d) (hna : As.length = na) (hrest : (rest.map fun v => v.category).sum ≤ 8) (hst : st = As.reverse ++ .ref (g.1 k n) :: rest) (kk : ∀ (r : Option Value) (τ : Sg), P r τ → K (pc + 3) lv (r.toList ++ rest) τ) : K pc lv st σ := by
  obtain ⟨p, e, R, s, m, args, below, meth, c, cells, slots, Q, hx, hb, hml, hown, hts, hk, hNW, hg, hRm, rfl⟩ := hK
  obtain ⟨bytes, maxL, ret, hcode, hmx, hM⟩ := hC
  obtain ⟨⟨T, N', hcl⟩, hlk, him, hse, hini, hfacts⟩ := hm
  intro H locs ls hl hc hP hS
  obtain ⟨q0, hq, -⟩ := wd_at g σ hi
  rw [cell_o ho] at hq
  have hR : (rmd d').frames + 1 ≤ R.frames ∧ 8 + (maxL + 11) + (rmd d').locals ≤ R.locals := by
    have h1 := hRm.1
    have h2 := hRm.2.1
    constructor
    · show d' + 1 ≤ R.frames
      omega
    · show 8 + (maxL + 11) + 36 * d' ≤ R.locals
      omega
  have hpre : PreV s H y.cls (g.1 k n) (va_Pc (.ref (g.1 k n) :: As) (Stt g σ)) As := ⟨stt_blind g σ _, va_recv hk hP hcl hq, fun U hU hW => ⟨rfl, by rw [hU]; exact hP, va_K.moved hW.alike hk, hNW.warm hW⟩⟩
  refine callX (rest := rest) (a := (Value.ref (g.1 k n) :: As).toArray) (P := P) ?_ hS (fun r τ H1 locs1 hp h1 h3 => kk r τ hp H1 locs1 ls hl hc h1 h3)
  subst hst
  rcases hlk with hlk | ⟨host, hlk⟩
  · exact va_runV (cells := cells) (slots := slots) ⟨hx, hb, hml, hown, hts⟩ hM ⟨callB_of na hts (gw_in hcode) rfl rfl rfl (hts _ hini) (hts _ hlk) hfacts hR, hts _ him, hts _ hse⟩ hpre rfl hna hl.1 rfl (lv_room hrest) hd ⟨hRm.2.2.1, hRm.2.2.2⟩
  · exact va_runVN (cells := cells) (slots := slots) ⟨hx, hb, hml, hown, hts⟩ hM ⟨va_cnB na hts (gw_in hcode) rfl rfl rfl (hNW.2 _ hlk) (hts _ hini) hfacts hR, hts _ him, hts _ hse⟩ hpre rfl hna hl.1 rfl (lv_room hrest) hd ⟨hRm.2.2.1, hRm.2.2.2⟩
set_option maxHeartbeats 1000000 in
theorem r_callS (hK : Gd l g own cc nL d K) {y : MethodName} {d' idx na : Nat} {As rest : List Value} {P : Option Value → Sg → Prop} (hd : decode cc pc = .ok (.invokestatic idx, 3)) (hm : Ms own idx y na) (hC : Ct l g y d' As σ P) (hdd : d' < d) (hna : As.length = na) (hrest : (rest.map fun v => v.category).sum ≤ 8) (hst : st = As.reverse ++ rest) (kk : ∀ (r : Option Value) (τ : Sg), P r τ → K (pc + 3) lv (r.toList ++ rest) τ) : K pc lv st σ := by
  obtain ⟨p, e, R, s, m, args, below, meth, c, cells, slots, Q, hx, hb, hml, hown, hts, hk, hNW, hg, hRm, rfl⟩ := hK
  obtain ⟨bytes, maxL, ret, hcode, hmx, hM⟩ := hC
  obtain ⟨hlk, hstt, hini, hfacts⟩ := hm
  intro H locs ls hl hc hP hS
  have hR : (rmd d').frames + 1 ≤ R.frames ∧ 8 + (maxL + 11) + (rmd d').locals ≤ R.locals := by
    have h1 := hRm.1
    have h2 := hRm.2.1
    constructor
    · show d' + 1 ≤ R.frames
      omega
    · show 8 + (maxL + 11) + 36 * d' ≤ R.locals
      omega
  have hpre : PreS s H (va_Pc As (Stt g σ)) As := ⟨stt_blind g σ _, fun U hU hW => ⟨rfl, by rw [hU]; exact hP, va_K.moved hW.alike hk, hNW.warm hW⟩⟩
  refine callX (rest := rest) (a := As.toArray) (P := P) ?_ hS (fun r τ H1 locs1 hp h1 h3 => kk r τ hp H1 locs1 ls hl hc h1 h3)
  subst hst
  rcases hlk with hlk | ⟨host, hlk⟩
  · exact va_runS (cells := cells) (slots := slots) ⟨hx, hb, hml, hown, hts⟩ hM ⟨callB_of na hts (gw_in hcode) rfl rfl rfl (hts _ hini) (hts _ hlk) hfacts hR, hts _ hstt⟩ hpre rfl hna hl.1 rfl (lv_room hrest) hd ⟨hRm.2.2.1, hRm.2.2.2⟩
  · exact va_runSN (cells := cells) (slots := slots) ⟨hx, hb, hml, hown, hts⟩ hM ⟨va_cnB na hts (gw_in hcode) rfl rfl rfl (hNW.2 _ hlk) (hts _ hini) hfacts hR, hts _ hstt, trivial⟩ hpre rfl hna hl.1 rfl (lv_room hrest) hd ⟨hRm.2.2.1, hRm.2.2.2⟩
abbrev CI (l : Launch) (g : Gc) (y : MethodName) (d : Nat) (av : List Value) (σ : Sg) (v : Int32) (τ : Sg) : Prop := Ct l g y d av σ (fun r τ' => r = some (.int v) ∧ τ' = τ)
abbrev CV (l : Launch) (g : Gc) (y : MethodName) (d : Nat) (av : List Value) (σ : Sg) (τ : Sg) : Prop := Ct l g y d av σ (fun r τ' => r = none ∧ τ' = τ)
abbrev CR (l : Launch) (g : Gc) (y : MethodName) (d : Nat) (av : List Value) (σ : Sg) (a : Nat) (τ : Sg) : Prop := Ct l g y d av σ (fun r τ' => r = some (.ref a) ∧ τ' = τ)
theorem r_callVI (hK : Gd l g own cc nL d K) {y : MethodName} {d' idx na ci k n N : Nat} {As rest : List Value} {v : Int32} {τ : Sg} (hd : decode cc pc = .ok (.invokevirtual idx, 3)) (hm : Mv own idx y na ci) (ho : oc k = some (ci, N)) (hi : Inn g.2.1 k n) (hC : CI l g y d' (.ref (g.1 k n) :: As) σ v τ) (hdd : d' < d) (hna : As.length = na) (hst : st = As.reverse ++ .ref (g.1 k n) :: rest) (hrest : Nat.ble (rest.map fun v => v.category).sum 8 = true) (kk : K (pc + 3) lv (.int v :: rest) τ) : K pc lv st σ :=
  r_callV hK hd hm ho hi hC hdd hna (Nat.le_of_ble_eq_true hrest) hst (fun r τ' h => by obtain ⟨rfl, rfl⟩ := h; exact kk)
theorem r_callSI (hK : Gd l g own cc nL d K) {y : MethodName} {d' idx na : Nat} {As rest : List Value} {v : Int32} {τ : Sg} (hd : decode cc pc = .ok (.invokestatic idx, 3)) (hm : Ms own idx y na) (hC : CI l g y d' As σ v τ) (hdd : d' < d) (hna : As.length = na) (hst : st = As.reverse ++ rest) (hrest : Nat.ble (rest.map fun v => v.category).sum 8 = true) (kk : K (pc + 3) lv (.int v :: rest) τ) : K pc lv st σ :=
  r_callS hK hd hm hC hdd hna (Nat.le_of_ble_eq_true hrest) hst (fun r τ' h => by obtain ⟨rfl, rfl⟩ := h; exact kk)
theorem r_callVV (hK : Gd l g own cc nL d K) {y : MethodName} {d' idx na ci k n N : Nat} {As rest : List Value}  {τ : Sg} (hd : decode cc pc = .ok (.invokevirtual idx, 3)) (hm : Mv own idx y na ci) (ho : oc k = some (ci, N)) (hi : Inn g.2.1 k n) (hC : CV l g y d' (.ref (g.1 k n) :: As) σ τ) (hdd : d' < d) (hna : As.length = na) (hst : st = As.reverse ++ .ref (g.1 k n) :: rest) (hrest : Nat.ble (rest.map fun v => v.category).sum 8 = true) (kk : K (pc + 3) lv (rest) τ) : K pc lv st σ :=
  r_callV hK hd hm ho hi hC hdd hna (Nat.le_of_ble_eq_true hrest) hst (fun r τ' h => by obtain ⟨rfl, rfl⟩ := h; exact kk)
theorem r_callSV (hK : Gd l g own cc nL d K) {y : MethodName} {d' idx na : Nat} {As rest : List Value}  {τ : Sg} (hd : decode cc pc = .ok (.invokestatic idx, 3)) (hm : Ms own idx y na) (hC : CV l g y d' As σ τ) (hdd : d' < d) (hna : As.length = na) (hst : st = As.reverse ++ rest) (hrest : Nat.ble (rest.map fun v => v.category).sum 8 = true) (kk : K (pc + 3) lv (rest) τ) : K pc lv st σ :=
  r_callS hK hd hm hC hdd hna (Nat.le_of_ble_eq_true hrest) hst (fun r τ' h => by obtain ⟨rfl, rfl⟩ := h; exact kk)
theorem r_callVR (hK : Gd l g own cc nL d K) {y : MethodName} {d' idx na ci k n N : Nat} {As rest : List Value} {v : Nat} {τ : Sg} (hd : decode cc pc = .ok (.invokevirtual idx, 3)) (hm : Mv own idx y na ci) (ho : oc k = some (ci, N)) (hi : Inn g.2.1 k n) (hC : CR l g y d' (.ref (g.1 k n) :: As) σ v τ) (hdd : d' < d) (hna : As.length = na) (hst : st = As.reverse ++ .ref (g.1 k n) :: rest) (hrest : Nat.ble (rest.map fun v => v.category).sum 8 = true) (kk : K (pc + 3) lv (.ref v :: rest) τ) : K pc lv st σ :=
  r_callV hK hd hm ho hi hC hdd hna (Nat.le_of_ble_eq_true hrest) hst (fun r τ' h => by obtain ⟨rfl, rfl⟩ := h; exact kk)
theorem r_callSR (hK : Gd l g own cc nL d K) {y : MethodName} {d' idx na : Nat} {As rest : List Value} {v : Nat} {τ : Sg} (hd : decode cc pc = .ok (.invokestatic idx, 3)) (hm : Ms own idx y na) (hC : CR l g y d' As σ v τ) (hdd : d' < d) (hna : As.length = na) (hst : st = As.reverse ++ rest) (hrest : Nat.ble (rest.map fun v => v.category).sum 8 = true) (kk : K (pc + 3) lv (.ref v :: rest) τ) : K pc lv st σ :=
  r_callS hK hd hm hC hdd hna (Nat.le_of_ble_eq_true hrest) hst (fun r τ' h => by obtain ⟨rfl, rfl⟩ := h; exact kk)
theorem r_callVP (hK : Gd l g own cc nL d K) {y : MethodName} {d' idx na ci k n N : Nat} {As rest : List Value} {P : Option Value → Sg → Prop} (hd : decode cc pc = .ok (.invokevirtual idx, 3)) (hm : Mv own idx y na ci) (ho : oc k = some (ci, N)) (hi : Inn g.2.1 k n) (hC : Ct l g y d' (.ref (g.1 k n) :: As) σ P) (hdd : d' < d) (hna : As.length = na) (hst : st = As.reverse ++ .ref (g.1 k n) :: rest) (hrest : Nat.ble (rest.map fun v => v.category).sum 8 = true) (kk : ∀ (r : Option Value) (τ : Sg), P r τ → K (pc + 3) lv (r.toList ++ rest) τ) : K pc lv st σ :=
  r_callV hK hd hm ho hi hC hdd hna (Nat.le_of_ble_eq_true hrest) hst kk
theorem Rt.i {cc : ByteArray} {ty : FieldType} {K : Kt} {P : Option Value → Sg → Prop} (h : Rt cc (some ty) K P) {pc : Nat} {lv : List Value} {v : Int32} {σ : Sg} (hd : decode cc pc = .ok (.ireturn, 1)) (hn : narrow ty (.int v) = .int v) (hp : P (some (.int v)) σ) : K pc lv [.int v] σ := h.1 pc lv v σ hd hn hp
theorem Rt.r {cc : ByteArray} {ty : FieldType} {K : Kt} {P : Option Value → Sg → Prop} (h : Rt cc (some ty) K P) {pc : Nat} {lv : List Value} {a : Nat} {σ : Sg} (hd : decode cc pc = .ok (.areturn, 1)) (hn : (∃ n, ty = .object n) ∨ ∃ t, ty = .array t) (hp : P (some (.ref a)) σ) : K pc lv [.ref a] σ := h.2 pc lv a σ hd hn hp
theorem Rt.v {cc : ByteArray} {K : Kt} {P : Option Value → Sg → Prop} (h : Rt cc none K P) {pc : Nat} {lv : List Value} {σ : Sg} (hd : decode cc pc = .ok (.return_, 1)) (hp : P none σ) : K pc lv [] σ := h pc lv σ hd hp
theorem ix_nI {j : Nat} (h : j < 2 ^ 31) : Ix (nI j) j := ⟨nI_pos h, nI_clamp h⟩
theorem nz_and {n : Nat} (h : n < 2 ^ 31) {m : Nat} (k : Nat) (hm : (nI m).toBitVec.toNat = 2 ^ k - 1) : nI n &&& nI m = nI (n % 2 ^ k) := pk_andN (by omega) k hm
theorem nz_shr {n : Nat} (h : n < 2 ^ 31) {m : Nat} (hm : ((nI m &&& 31).toBitVec.smod 32).toNat = m) : nI n >>> (nI m &&& 31) = nI (n / 2 ^ m) := pk_shrN h _ m hm
end Rows
