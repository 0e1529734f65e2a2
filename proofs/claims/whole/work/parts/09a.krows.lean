/-! rows for constructors: the world is W0 ++ X, X grows -/
abbrev Kx : Type := Nat → List Value → List Value → va_W → Nat → Nat → Prop
def tq (cA : Nat → ClassId) : List (ClassId × FieldType) := [(cA 0, .int), (cA 1, .boolean), (cA 2, .object "GradientShards$Shard"), (cA 3, .object "GradientShards$Link")]
def Ctx (D : va_G) (cA : Nat → ClassId) (U : State) : Prop := va_K D vwCl (tq cA) U ∧ NW U ∧ va_AO "GradientShards$Shard" U ∧ va_AO "GradientShards$Link" U
theorem Ctx.warm {D : va_G} {cA : Nat → ClassId} {s U : State} (hW : s.WarmedH U.vm) (h : Ctx D cA s) : Ctx D cA U := ⟨va_K.moved hW.alike h.1, h.2.1.warm hW, h.2.2.1.moved hW.alike, h.2.2.2.moved hW.alike⟩
theorem Ctx.same {D : va_G} {cA : Nat → ClassId} {u U : State} (e : u.vm = U.vm) (h : Ctx D cA u) : Ctx D cA U := by
  have ha : u.vm.Alike U.vm := by rw [e]; exact Vm.Alike.refl _
  exact ⟨va_K.moved ha h.1, NW.same e h.2.1, h.2.2.1.moved ha, h.2.2.2.moved ha⟩
def Gk (l : Launch) (D : va_G) (cA : Nat → ClassId) (W0 : va_W) (A : Nat → Prop) (own : String) (cc : ByteArray) (nL : Nat) (R : Room) (ini : Bool) (K : Kx) : Prop :=
  ∃ (p : Program) (e : Env) (s : State) (m : MethodId) (args : Array Value) (below : List Frame) (meth : Method) (c : Code) (Q : State → Prop),
    p.tables.exec = Jvm.exec ∧ c.code = cc ∧ c.maxLocals = nL ∧ s.vm.findClass own = some m.cls ∧ (∀ w ∈ GW, w.before args s = true) ∧ Ctx D cA s ∧ (∀ q, s.heap.size ≤ q → A q) ∧ (ini = true → meth.name = "<init>") ∧
    K = fun pc lv st X cells slots => ∀ (H : Heap) (locs : List Loc) (ls : Array Slot), lv_has ls nL (lvi 0 lv) → (∀ v ∈ lv, v.category = 1) → va_P D vwCl (W0 ++ X) H → va_D A (W0 ++ X) → va_S A s.heap H locs → W p l e R s m args below meth c H locs cells slots Q (F0 m pc ls st)
theorem ap_get {W0 X : va_W} {i : Nat} : (W0 ++ X)[W0.length + i]? = X[i]? := by
  rw [List.getElem?_append_right (by omega), show W0.length + i - W0.length = i by omega]
theorem ap_set {W0 X : va_W} {i : Nat} {e : Nat × va_E} : (W0 ++ X).set (W0.length + i) e = W0 ++ X.set i e := by
  rw [List.set_append_right _ _ (by omega), show W0.length + i - W0.length = i by omega]
def Flp (own : String) (idx ci j : Nat) (ty : FieldType) (fin : Bool) : Prop :=
  ∃ (C : String) (T : u_T) (N : Nat) (ty0 : Nat → FieldType), vwCl[ci]? = some (C, T, N) ∧ j < N ∧ (∀ w ∈ u_ws C T N, w ∈ GW) ∧ (∀ k, k < N → parseFieldDescriptor (T k).2.2.1 = some (ty0 k)) ∧ (∀ a, a < N → ∀ b, b < N → a ≠ b → (T a).2.1 ≠ (T b).2.1) ∧ parseFieldDescriptor (T j).2.2.1 = some ty ∧ (T j).2.2.2 = fin ∧ (T j).1 = own ∧ Cond.fieldLink own idx (T j).1 (T j).2.1 (T j).2.2.1 ∈ GW
def Nwf (own : String) (idx ci N : Nat) (fs : List Value) : Prop :=
  ∃ (C : String) (T : u_T) (ty0 : Nat → FieldType), vwCl[ci]? = some (C, T, N) ∧ (∀ w ∈ u_ws C T N, w ∈ GW) ∧ (∀ k, k < N → parseFieldDescriptor (T k).2.2.1 = some (ty0 k)) ∧ Cond.classLink own idx C ∈ GW ∧ Cond.instantiable C N ∈ GW ∧ Cond.initialized C ∈ GW ∧ ∀ j, j < N → defaultValue (ty0 j) = vp_V fs j
section KR
variable {l : Launch} {D : va_G} {cA : Nat → ClassId} {W0 : va_W} {A : Nat → Prop} {own : String} {cc : ByteArray} {nL : Nat} {R : Room} {ini : Bool} {K : Kx} {pc : Nat} {lv st : List Value} {X : va_W} {cells slots : Nat}
theorem x_iconst (hK : Gk l D cA W0 A own cc nL R ini K) {n : Int} {v : Int32} (hd : decode cc pc = .ok (.iconst n, 1)) (hv : Int32.ofInt n = v) (k : K (pc + 1) lv (.int v :: st) X cells slots) : K pc lv (st) X cells slots := by
  obtain ⟨p, e, s, m, args, below, meth, c, Q, hx, hb, hml, hown, hts, hctx, hA, hini, rfl⟩ := hK
  exact fun H locs ls hl hc hP hD hS => lv_iconst hx hb hd hv (k H locs ls hl hc hP hD hS)
theorem x_bipush (hK : Gk l D cA W0 A own cc nL R ini K) {n : Int} {v : Int32} (hd : decode cc pc = .ok (.bipush n, 2)) (hv : (Int8.ofInt n).toInt32 = v) (k : K (pc + 2) lv (.int v :: st) X cells slots) : K pc lv (st) X cells slots := by
  obtain ⟨p, e, s, m, args, below, meth, c, Q, hx, hb, hml, hown, hts, hctx, hA, hini, rfl⟩ := hK
  exact fun H locs ls hl hc hP hD hS => lv_bipush hx hb hd hv (k H locs ls hl hc hP hD hS)
theorem x_sipush (hK : Gk l D cA W0 A own cc nL R ini K) {n : Int} {v : Int32} (hd : decode cc pc = .ok (.sipush n, 3)) (hv : (Int16.ofInt n).toInt32 = v) (k : K (pc + 3) lv (.int v :: st) X cells slots) : K pc lv (st) X cells slots := by
  obtain ⟨p, e, s, m, args, below, meth, c, Q, hx, hb, hml, hown, hts, hctx, hA, hini, rfl⟩ := hK
  exact fun H locs ls hl hc hP hD hS => lv_sipush hx hb hd hv (k H locs ls hl hc hP hD hS)
theorem x_iload_n (hK : Gk l D cA W0 A own cc nL R ini K) {k : Fin 4} {i : Nat} {x : Int32} (hd : decode cc pc = .ok (.iload_n k, 1)) (hi : (k : Nat) = i) (hv : lv[i]? = some (.int x)) (k : K (pc + 1) lv (.int x :: st) X cells slots) : K pc lv (st) X cells slots := by
  obtain ⟨p, e, s, m, args, below, meth, c, Q, hx, hb, hml, hown, hts, hctx, hA, hini, rfl⟩ := hK
  exact fun H locs ls hl hc hP hD hS => lv_iload_n hx hb hd hi (lvi_at hl hv) (k H locs ls hl hc hP hD hS)
theorem x_iload (hK : Gk l D cA W0 A own cc nL R ini K) {i : Nat} {x : Int32} (hd : decode cc pc = .ok (.iload i, 2)) (hv : lv[i]? = some (.int x)) (k : K (pc + 2) lv (.int x :: st) X cells slots) : K pc lv (st) X cells slots := by
  obtain ⟨p, e, s, m, args, below, meth, c, Q, hx, hb, hml, hown, hts, hctx, hA, hini, rfl⟩ := hK
  exact fun H locs ls hl hc hP hD hS => lv_iload hx hb hd (lvi_at hl hv) (k H locs ls hl hc hP hD hS)
theorem x_istore_n (hK : Gk l D cA W0 A own cc nL R ini K) {k : Fin 4} {i : Nat} {x : Int32} (hd : decode cc pc = .ok (.istore_n k, 1)) (hi : (k : Nat) = i) (hn : Nat.ble i lv.length = true) (hL : Nat.blt i nL = true) (k : K (pc + 1) (stl lv i (.int x)) st X cells slots) : K pc lv (.int x :: st) X cells slots := by
  obtain ⟨p, e, s, m, args, below, meth, c, Q, hx, hb, hml, hown, hts, hctx, hA, hini, rfl⟩ := hK
  exact fun H locs ls hl hc hP hD hS => lv_istore_n hx hb hd hi hl (Nat.blt_eq.mp hL) rfl (fun ls1 h1 => k H locs ls1 (stl_has hc (Nat.le_of_ble_eq_true hn) h1) (stl_cat hc rfl) hP hD hS)
theorem x_istore (hK : Gk l D cA W0 A own cc nL R ini K) {i : Nat} {x : Int32} (hd : decode cc pc = .ok (.istore i, 2)) (hn : Nat.ble i lv.length = true) (hL : Nat.blt i nL = true) (k : K (pc + 2) (stl lv i (.int x)) st X cells slots) : K pc lv (.int x :: st) X cells slots := by
  obtain ⟨p, e, s, m, args, below, meth, c, Q, hx, hb, hml, hown, hts, hctx, hA, hini, rfl⟩ := hK
  exact fun H locs ls hl hc hP hD hS => lv_istore hx hb hd hl (Nat.blt_eq.mp hL) rfl (fun ls1 h1 => k H locs ls1 (stl_has hc (Nat.le_of_ble_eq_true hn) h1) (stl_cat hc rfl) hP hD hS)
theorem x_aload_n (hK : Gk l D cA W0 A own cc nL R ini K) {k : Fin 4} {i : Nat} {x : Nat} (hd : decode cc pc = .ok (.aload_n k, 1)) (hi : (k : Nat) = i) (hv : lv[i]? = some (.ref x)) (k : K (pc + 1) lv (.ref x :: st) X cells slots) : K pc lv (st) X cells slots := by
  obtain ⟨p, e, s, m, args, below, meth, c, Q, hx, hb, hml, hown, hts, hctx, hA, hini, rfl⟩ := hK
  exact fun H locs ls hl hc hP hD hS => lv_aload_n hx hb hd hi (lvi_at hl hv) (k H locs ls hl hc hP hD hS)
theorem x_aload (hK : Gk l D cA W0 A own cc nL R ini K) {i : Nat} {x : Nat} (hd : decode cc pc = .ok (.aload i, 2)) (hv : lv[i]? = some (.ref x)) (k : K (pc + 2) lv (.ref x :: st) X cells slots) : K pc lv (st) X cells slots := by
  obtain ⟨p, e, s, m, args, below, meth, c, Q, hx, hb, hml, hown, hts, hctx, hA, hini, rfl⟩ := hK
  exact fun H locs ls hl hc hP hD hS => lv_aload hx hb hd (lvi_at hl hv) (k H locs ls hl hc hP hD hS)
theorem x_astore_n (hK : Gk l D cA W0 A own cc nL R ini K) {k : Fin 4} {i : Nat} {x : Nat} (hd : decode cc pc = .ok (.astore_n k, 1)) (hi : (k : Nat) = i) (hn : Nat.ble i lv.length = true) (hL : Nat.blt i nL = true) (k : K (pc + 1) (stl lv i (.ref x)) st X cells slots) : K pc lv (.ref x :: st) X cells slots := by
  obtain ⟨p, e, s, m, args, below, meth, c, Q, hx, hb, hml, hown, hts, hctx, hA, hini, rfl⟩ := hK
  exact fun H locs ls hl hc hP hD hS => lv_astore_n hx hb hd hi hl (Nat.blt_eq.mp hL) rfl (fun ls1 h1 => k H locs ls1 (stl_has hc (Nat.le_of_ble_eq_true hn) h1) (stl_cat hc rfl) hP hD hS)
theorem x_astore (hK : Gk l D cA W0 A own cc nL R ini K) {i : Nat} {x : Nat} (hd : decode cc pc = .ok (.astore i, 2)) (hn : Nat.ble i lv.length = true) (hL : Nat.blt i nL = true) (k : K (pc + 2) (stl lv i (.ref x)) st X cells slots) : K pc lv (.ref x :: st) X cells slots := by
  obtain ⟨p, e, s, m, args, below, meth, c, Q, hx, hb, hml, hown, hts, hctx, hA, hini, rfl⟩ := hK
  exact fun H locs ls hl hc hP hD hS => lv_astore hx hb hd hl (Nat.blt_eq.mp hL) rfl (fun ls1 h1 => k H locs ls1 (stl_has hc (Nat.le_of_ble_eq_true hn) h1) (stl_cat hc rfl) hP hD hS)
theorem x_iinc (hK : Gk l D cA W0 A own cc nL R ini K) {i : Nat} {n : Int} {x v : Int32} (hd : decode cc pc = .ok (.iinc i n, 3)) (hx2 : lv[i]? = some (.int x)) (hv : x + Int32.ofInt n = v) (hL : Nat.blt i nL = true) (k : K (pc + 3) (stl lv i (.int v)) st X cells slots) : K pc lv st X cells slots := by
  obtain ⟨p, e, s, m, args, below, meth, c, Q, hx, hb, hml, hown, hts, hctx, hA, hini, rfl⟩ := hK
  have hle : i ≤ lv.length := Nat.le_of_lt (List.getElem?_eq_some_iff.mp hx2).1
  exact fun H locs ls hl hc hP hD hS => lv_iinc (k := i) hx hb hd hl (by rw [lvi_get, hx2]; simp) hv (Nat.blt_eq.mp hL) rfl (fun ls1 h1 => k H locs ls1 (stl_has hc hle h1) (stl_cat hc rfl) hP hD hS)
theorem x_dup (hK : Gk l D cA W0 A own cc nL R ini K) {va : Value} (hd : decode cc pc = .ok (.dup, 1)) (hva : va.category = 1) (k : K (pc + 1) lv (va :: va :: st) X cells slots) : K pc lv (va :: st) X cells slots := by
  obtain ⟨p, e, s, m, args, below, meth, c, Q, hx, hb, hml, hown, hts, hctx, hA, hini, rfl⟩ := hK
  exact fun H locs ls hl hc hP hD hS => lv_dup hx hb hd hva (k H locs ls hl hc hP hD hS)
theorem x_if_lt (hK : Gk l D cA W0 A own cc nL R ini K) {x : Int32} {off : Int} {tgt : Nat} (hd : decode cc pc = .ok (.ifCond .lt off, 3)) (ht : (pc : Int) + off = (tgt : Int)) (kt : x < 0 → K tgt lv st X cells slots) (kf : ¬ x < 0 → K (pc + 3) lv st X cells slots) : K pc lv (.int x :: st) X cells slots := by
  obtain ⟨p, e, s, m, args, below, meth, c, Q, hx, hb, hml, hown, hts, hctx, hA, hini, rfl⟩ := hK
  exact fun H locs ls hl hc hP hD hS => lv_if_lt hx hb hd ht (fun q => kt q H locs ls hl hc hP hD hS) (fun q => kf q H locs ls hl hc hP hD hS)
theorem x_icmp_lt (hK : Gk l D cA W0 A own cc nL R ini K) {x y : Int32} {off : Int} {tgt : Nat} (hd : decode cc pc = .ok (.if_icmp .lt off, 3)) (ht : (pc : Int) + off = (tgt : Int)) (kt : x < y → K tgt lv st X cells slots) (kf : ¬ x < y → K (pc + 3) lv st X cells slots) : K pc lv (.int y :: .int x :: st) X cells slots := by
  obtain ⟨p, e, s, m, args, below, meth, c, Q, hx, hb, hml, hown, hts, hctx, hA, hini, rfl⟩ := hK
  exact fun H locs ls hl hc hP hD hS => lv_icmp_lt hx hb hd ht (fun q => kt q H locs ls hl hc hP hD hS) (fun q => kf q H locs ls hl hc hP hD hS)
theorem x_if_ge (hK : Gk l D cA W0 A own cc nL R ini K) {x : Int32} {off : Int} {tgt : Nat} (hd : decode cc pc = .ok (.ifCond .ge off, 3)) (ht : (pc : Int) + off = (tgt : Int)) (kt : 0 ≤ x → K tgt lv st X cells slots) (kf : ¬ 0 ≤ x → K (pc + 3) lv st X cells slots) : K pc lv (.int x :: st) X cells slots := by
  obtain ⟨p, e, s, m, args, below, meth, c, Q, hx, hb, hml, hown, hts, hctx, hA, hini, rfl⟩ := hK
  exact fun H locs ls hl hc hP hD hS => lv_if_ge hx hb hd ht (fun q => kt q H locs ls hl hc hP hD hS) (fun q => kf q H locs ls hl hc hP hD hS)
theorem x_icmp_ge (hK : Gk l D cA W0 A own cc nL R ini K) {x y : Int32} {off : Int} {tgt : Nat} (hd : decode cc pc = .ok (.if_icmp .ge off, 3)) (ht : (pc : Int) + off = (tgt : Int)) (kt : y ≤ x → K tgt lv st X cells slots) (kf : ¬ y ≤ x → K (pc + 3) lv st X cells slots) : K pc lv (.int y :: .int x :: st) X cells slots := by
  obtain ⟨p, e, s, m, args, below, meth, c, Q, hx, hb, hml, hown, hts, hctx, hA, hini, rfl⟩ := hK
  exact fun H locs ls hl hc hP hD hS => lv_icmp_ge hx hb hd ht (fun q => kt q H locs ls hl hc hP hD hS) (fun q => kf q H locs ls hl hc hP hD hS)
theorem x_if_gt (hK : Gk l D cA W0 A own cc nL R ini K) {x : Int32} {off : Int} {tgt : Nat} (hd : decode cc pc = .ok (.ifCond .gt off, 3)) (ht : (pc : Int) + off = (tgt : Int)) (kt : 0 < x → K tgt lv st X cells slots) (kf : ¬ 0 < x → K (pc + 3) lv st X cells slots) : K pc lv (.int x :: st) X cells slots := by
  obtain ⟨p, e, s, m, args, below, meth, c, Q, hx, hb, hml, hown, hts, hctx, hA, hini, rfl⟩ := hK
  exact fun H locs ls hl hc hP hD hS => lv_if_gt hx hb hd ht (fun q => kt q H locs ls hl hc hP hD hS) (fun q => kf q H locs ls hl hc hP hD hS)
theorem x_icmp_gt (hK : Gk l D cA W0 A own cc nL R ini K) {x y : Int32} {off : Int} {tgt : Nat} (hd : decode cc pc = .ok (.if_icmp .gt off, 3)) (ht : (pc : Int) + off = (tgt : Int)) (kt : y < x → K tgt lv st X cells slots) (kf : ¬ y < x → K (pc + 3) lv st X cells slots) : K pc lv (.int y :: .int x :: st) X cells slots := by
  obtain ⟨p, e, s, m, args, below, meth, c, Q, hx, hb, hml, hown, hts, hctx, hA, hini, rfl⟩ := hK
  exact fun H locs ls hl hc hP hD hS => lv_icmp_gt hx hb hd ht (fun q => kt q H locs ls hl hc hP hD hS) (fun q => kf q H locs ls hl hc hP hD hS)
theorem x_goto (hK : Gk l D cA W0 A own cc nL R ini K) {off : Int} {tgt : Nat} (hd : decode cc pc = .ok (.goto off, 3)) (ht : (pc : Int) + off = (tgt : Int)) (k : K tgt lv st X cells slots) : K pc lv st X cells slots := by
  obtain ⟨p, e, s, m, args, below, meth, c, Q, hx, hb, hml, hown, hts, hctx, hA, hini, rfl⟩ := hK
  exact fun H locs ls hl hc hP hD hS => lv_goto hx hb hd ht (k H locs ls hl hc hP hD hS)
theorem x_objinit (hK : Gk l D cA W0 A own cc nL R ini K) {idx a : Nat} (hd : decode cc pc = .ok (.invokespecial idx, 3)) (hm : Cond.methodLink own idx Lib.objectInit ∈ GW) (hf : 1 ≤ R.frames) (hlo : 36 ≤ R.locals) (hst : (st.map fun v => v.category).sum ≤ 8) (k : K (pc + 3) lv st X cells slots) : K pc lv (.ref a :: st) X cells slots := by
  obtain ⟨p, e, s, m, args, below, meth, c, Q, hx, hb, hml, hown, hts, hctx, hA, hini, rfl⟩ := hK
  exact fun H locs ls hl hc hP hD hS => W.objInit hx hb hown (hts _ hm) (hts _ w_im_Ob_init) (hts _ w_cd_Ob_init) (g := F0 m pc ls (.ref a :: st)) rfl (by rw [hml]; exact hl.1) rfl hd hf (by show 2 * 0 + _ + 12 ≤ R.locals; omega) (k H locs ls hl hc hP hD hS)
theorem x_put (hK : Gk l D cA W0 A own cc nL R ini K) (hi : ini = true) {idx ci j a : Nat} {ty : FieldType} {fin : Bool} {v : Value} {fs : List Value} (i0 : Nat) (hd : decode cc pc = .ok (.putfield idx, 3)) (hf : Flp own idx ci j ty fin) (hX : X[i0]? = some (a, .inr (ci, fs))) (hnar : narrow ty v = v) (hfit : fits ty v = true) (hl2 : Nat.blt j fs.length = true) (kk : K (pc + 3) lv st (X.set i0 (a, .inr (ci, fs.set j v))) cells slots) : K pc lv (v :: .ref a :: st) X cells slots := by
  obtain ⟨p, e, s, m, args, below, meth, c, Q, hx, hb, hml, hown, hts, hctx, hA, hini, rfl⟩ := hK
  obtain ⟨C, T, N', ty0, hcl, hj, hin, hty, hnm, hd2, hfin, hdecl, hlk⟩ := hf
  intro H locs ls hl hc hP hD hS
  have hq : (W0 ++ X)[W0.length + i0]? = some (a, .inr (ci, fs)) := by rw [ap_get]; exact hX
  cases fin with
  | false =>
    refine va_put hx hb hts hin ty0 hty hnm hown hctx.1 hP hD hS (W0.length + i0) hq hcl j hj (hts _ hlk) (fun _ h9 => h9) hfin hd2 hnar hfit (Nat.blt_eq.mp hl2) hd (fun H1 locs1 h1 h2 h3 => ?_)
    rw [ap_set] at h1 h2
    exact kk H1 locs1 ls hl hc h1 h2 h3
  | true =>
    refine va_putF hx hb hts hin ty0 hty hnm hown hctx.1 hP hD hS (W0.length + i0) hq hcl j hj (hts _ hlk) (fun _ h9 => h9) hfin (hini hi) hdecl hd2 hnar hfit (Nat.blt_eq.mp hl2) hd (fun H1 locs1 h1 h2 h3 => ?_)
    rw [ap_set] at h1 h2
    exact kk H1 locs1 ls hl hc h1 h2 h3
theorem x_get (hK : Gk l D cA W0 A own cc nL R ini K) {idx ci j a : Nat} {ty : FieldType} {fin : Bool} {v : Value} {fs : List Value} (i0 : Nat) (hd : decode cc pc = .ok (.getfield idx, 3)) (hf : Flp own idx ci j ty fin) (hX : X[i0]? = some (a, .inr (ci, fs))) (hv : fs[j]? = some v) (kk : K (pc + 3) lv (v :: st) X cells slots) : K pc lv (.ref a :: st) X cells slots := by
  obtain ⟨p, e, s, m, args, below, meth, c, Q, hx, hb, hml, hown, hts, hctx, hA, hini, rfl⟩ := hK
  obtain ⟨C, T, N', ty0, hcl, hj, hin, hty, hnm, hd2, hfin, hdecl, hlk⟩ := hf
  intro H locs ls hl hc hP hD hS
  have hq : (W0 ++ X)[W0.length + i0]? = some (a, .inr (ci, fs)) := by rw [ap_get]; exact hX
  exact va_get hx hb hts hin hown hctx.1 hP (W0.length + i0) hq hcl j hj (hts _ hlk) (fun _ h9 => h9) hv hd (kk H locs ls hl hc hP hD hS)
theorem x_newi (hK : Gk l D cA W0 A own cc nL R ini K) {n : Nat} (hd : decode cc pc = .ok (.newarray .int, 2)) (hn : n ≤ 6144) (hcells : cells + 1 ≤ R.cells) (hslots : slots + n ≤ R.slots) (kk : ∀ q : Nat, K (pc + 2) lv (.ref q :: st) (X ++ [(q, .inl (cA 0, n, .inl (fun _ => 0)))]) (cells + 1) (slots + n)) : K pc lv (.int (nI n) :: st) X cells slots := by
  obtain ⟨p, e, s, m, args, below, meth, c, Q, hx, hb, hml, hown, hts, hctx, hA, hini, rfl⟩ := hK
  intro H locs ls hl hc hP hD hS
  refine va_newa (atype := .int) (a0 := (n, .inl (fun _ => 0))) (N' := n) hx hb (hts _ w_ac_int) (ty := .int) rfl hctx.1 hP hD hS hA (fun _ => rfl) (nI_pos (by omega)) (nI_clamp (by omega)) (by show n * 4 ≤ _; omega) hcells hslots hd (fun q cB H1 hk2 h1 h2 h3 => ?_)
  have e1 := (hk2.2 4 (cB, .int) rfl).2
  have e2 := (hctx.1.2 0 (cA 0, .int) rfl).2
  have e : cB = cA 0 := Option.some.inj (e1.symm.trans e2)
  subst e
  rw [List.append_assoc] at h1 h2
  exact kk q H1 locs ls hl hc h1 h2 h3
theorem x_newz (hK : Gk l D cA W0 A own cc nL R ini K) {n : Nat} (hd : decode cc pc = .ok (.newarray .boolean, 2)) (hn : n ≤ 6144) (hcells : cells + 1 ≤ R.cells) (hslots : slots + n ≤ R.slots) (kk : ∀ q : Nat, K (pc + 2) lv (.ref q :: st) (X ++ [(q, .inl (cA 1, n, .inl (fun _ => 0)))]) (cells + 1) (slots + n)) : K pc lv (.int (nI n) :: st) X cells slots := by
  obtain ⟨p, e, s, m, args, below, meth, c, Q, hx, hb, hml, hown, hts, hctx, hA, hini, rfl⟩ := hK
  intro H locs ls hl hc hP hD hS
  refine va_newa (atype := .boolean) (a0 := (n, .inl (fun _ => 0))) (N' := n) hx hb (hts _ w_ac_boolean) (ty := .boolean) rfl hctx.1 hP hD hS hA (fun _ => rfl) (nI_pos (by omega)) (nI_clamp (by omega)) (by show n * 1 ≤ _; omega) hcells hslots hd (fun q cB H1 hk2 h1 h2 h3 => ?_)
  have e1 := (hk2.2 4 (cB, .boolean) rfl).2
  have e2 := (hctx.1.2 1 (cA 1, .boolean) rfl).2
  have e : cB = cA 1 := Option.some.inj (e1.symm.trans e2)
  subst e
  rw [List.append_assoc] at h1 h2
  exact kk q H1 locs ls hl hc h1 h2 h3
theorem x_newSh (hK : Gk l D cA W0 A own cc nL R ini K) {idx n : Nat} (hd : decode cc pc = .ok (.anewarray idx, 3)) (hcl : Cond.classLink own idx "GradientShards$Shard" ∈ GW) (hn : n ≤ 6144) (hcells : cells + 1 ≤ R.cells) (hslots : slots + n ≤ R.slots) (kk : ∀ q : Nat, K (pc + 3) lv (.ref q :: st) (X ++ [(q, .inl (cA 2, n, .inr (.inr (.inr (.inr (fun _ => none))))))]) (cells + 1) (slots + n)) : K pc lv (.int (nI n) :: st) X cells slots := by
  obtain ⟨p, e, s, m, args, below, meth, c, Q, hx, hb, hml, hown, hts, hctx, hA, hini, rfl⟩ := hK
  intro H locs ls hl hc hP hD hS
  refine va_newq (N' := n) hx hb hown (hts _ hcl) hctx.2.2.1 hctx.1 hP hD hS hA (nI_pos (by omega)) (nI_clamp (by omega)) (by omega) hcells hslots hd (fun q cB H1 hk2 h1 h2 h3 => ?_)
  obtain ⟨-, -, -, -, -, e1⟩ := (hk2.2 4 (cB, .object "GradientShards$Shard") rfl).2
  obtain ⟨-, -, -, -, -, e2⟩ := (hctx.1.2 2 (cA 2, .object "GradientShards$Shard") rfl).2
  have e : cB = cA 2 := Option.some.inj (e1.symm.trans e2)
  subst e
  rw [List.append_assoc] at h1 h2
  exact kk q H1 locs ls hl hc h1 h2 h3
theorem x_newLk (hK : Gk l D cA W0 A own cc nL R ini K) {idx n : Nat} (hd : decode cc pc = .ok (.anewarray idx, 3)) (hcl : Cond.classLink own idx "GradientShards$Link" ∈ GW) (hn : n ≤ 6144) (hcells : cells + 1 ≤ R.cells) (hslots : slots + n ≤ R.slots) (kk : ∀ q : Nat, K (pc + 3) lv (.ref q :: st) (X ++ [(q, .inl (cA 3, n, .inr (.inr (.inr (.inr (fun _ => none))))))]) (cells + 1) (slots + n)) : K pc lv (.int (nI n) :: st) X cells slots := by
  obtain ⟨p, e, s, m, args, below, meth, c, Q, hx, hb, hml, hown, hts, hctx, hA, hini, rfl⟩ := hK
  intro H locs ls hl hc hP hD hS
  refine va_newq (N' := n) hx hb hown (hts _ hcl) hctx.2.2.2 hctx.1 hP hD hS hA (nI_pos (by omega)) (nI_clamp (by omega)) (by omega) hcells hslots hd (fun q cB H1 hk2 h1 h2 h3 => ?_)
  obtain ⟨-, -, -, -, -, e1⟩ := (hk2.2 4 (cB, .object "GradientShards$Link") rfl).2
  obtain ⟨-, -, -, -, -, e2⟩ := (hctx.1.2 3 (cA 3, .object "GradientShards$Link") rfl).2
  have e : cB = cA 3 := Option.some.inj (e1.symm.trans e2)
  subst e
  rw [List.append_assoc] at h1 h2
  exact kk q H1 locs ls hl hc h1 h2 h3
theorem x_new (hK : Gk l D cA W0 A own cc nL R ini K) {idx ci N : Nat} {fs : List Value} (hd : decode cc pc = .ok (.new idx, 3)) (hw : Nwf own idx ci N fs) (hcells : cells + 1 ≤ R.cells) (hslots : slots + N ≤ R.slots) (kk : ∀ q : Nat, K (pc + 3) lv (.ref q :: st) (X ++ [(q, .inr (ci, fs))]) (cells + 1) (slots + N)) : K pc lv st X cells slots := by
  obtain ⟨p, e, s, m, args, below, meth, c, Q, hx, hb, hml, hown, hts, hctx, hA, hini, rfl⟩ := hK
  obtain ⟨C, T, ty0, hcl, hin, hty, hlk, hinst, hin2, hfs⟩ := hw
  intro H locs ls hl hc hP hD hS
  refine va_new hx hb hts hin ty0 hty hown (hts _ hlk) (hts _ hinst) (hts _ hin2) hctx.1 hP hD hS hA hcl hfs hcells hslots hd (fun q H1 h1 h2 h3 => ?_)
  rw [List.append_assoc] at h1 h2
  exact kk q H1 locs ls hl hc h1 h2 h3
theorem x_astSh (hK : Gk l D cA W0 A own cc nL R ini K) {i : Int32} {a v n j : Nat} {f : Nat → Option Nat} {vs : List Value} (i0 i1 : Nat) (hd : decode cc pc = .ok (.aastore, 1)) (hX : X[i0]? = some (a, .inl (cA 2, n, .inr (.inr (.inr (.inr f)))))) (hX1 : X[i1]? = some (v, .inr (2, vs))) (hx2 : Ix i j) (hj : j < n) (kk : K (pc + 1) lv st (X.set i0 (a, .inl (cA 2, n, .inr (.inr (.inr (.inr (va_up f j (some v)))))))) cells slots) : K pc lv (.ref v :: .int i :: .ref a :: st) X cells slots := by
  obtain ⟨p, e, s, m, args, below, meth, c, Q, hx, hb, hml, hown, hts, hctx, hA, hini, rfl⟩ := hK
  intro H locs ls hl hc hP hD hS
  have hq : (W0 ++ X)[W0.length + i0]? = some (a, .inl (cA 2, n, .inr (.inr (.inr (.inr f))))) := by rw [ap_get]; exact hX
  have hq1 : (W0 ++ X)[W0.length + i1]? = some (v, .inr (2, vs)) := by rw [ap_get]; exact hX1
  refine va_astq hx hb hctx.1 hP hD hS (W0.length + i0) 2 (W0.length + i1) 2 hq rfl hq1 rfl (ix_in hx2 hj) hd (fun H1 locs1 h1 h2 h3 => ?_)
  rw [hx2.2, ap_set] at h1 h2
  exact kk H1 locs1 ls hl hc h1 h2 h3
theorem x_astLk (hK : Gk l D cA W0 A own cc nL R ini K) {i : Int32} {a v n j : Nat} {f : Nat → Option Nat} {vs : List Value} (i0 i1 : Nat) (hd : decode cc pc = .ok (.aastore, 1)) (hX : X[i0]? = some (a, .inl (cA 3, n, .inr (.inr (.inr (.inr f)))))) (hX1 : X[i1]? = some (v, .inr (0, vs))) (hx2 : Ix i j) (hj : j < n) (kk : K (pc + 1) lv st (X.set i0 (a, .inl (cA 3, n, .inr (.inr (.inr (.inr (va_up f j (some v)))))))) cells slots) : K pc lv (.ref v :: .int i :: .ref a :: st) X cells slots := by
  obtain ⟨p, e, s, m, args, below, meth, c, Q, hx, hb, hml, hown, hts, hctx, hA, hini, rfl⟩ := hK
  intro H locs ls hl hc hP hD hS
  have hq : (W0 ++ X)[W0.length + i0]? = some (a, .inl (cA 3, n, .inr (.inr (.inr (.inr f))))) := by rw [ap_get]; exact hX
  have hq1 : (W0 ++ X)[W0.length + i1]? = some (v, .inr (0, vs)) := by rw [ap_get]; exact hX1
  refine va_astq hx hb hctx.1 hP hD hS (W0.length + i0) 3 (W0.length + i1) 0 hq rfl hq1 rfl (ix_in hx2 hj) hd (fun H1 locs1 h1 h2 h3 => ?_)
  rw [hx2.2, ap_set] at h1 h2
  exact kk H1 locs1 ls hl hc h1 h2 h3
theorem x_less (hK : Gk l D cA W0 A own cc nL R ini K) (n : Nat) (k : K pc (lv.take n) st X cells slots) : K pc lv st X cells slots := by
  obtain ⟨p, e, s, m, args, below, meth, c, Q, hx, hb, hml, hown, hts, hctx, hA, hini, rfl⟩ := hK
  exact fun H locs ls hl hc hP hD hS => k H locs ls (lvi_take hl (fun i v h => by
    rw [List.getElem?_take] at h
    split at h
    · exact h
    · cases h)) (fun v hv => hc v (List.mem_of_mem_take hv)) hP hD hS
theorem x_room (hK : Gk l D cA W0 A own cc nL R ini K) {c2 s2 : Nat} (h1 : cells ≤ c2) (h2 : slots ≤ s2) (k : K pc lv st X c2 s2) : K pc lv st X cells slots := by
  obtain ⟨p, e, s, m, args, below, meth, c, Q, hx, hb, hml, hown, hts, hctx, hA, hini, rfl⟩ := hK
  exact fun H locs ls hl hc hP hD hS => W.widen h1 h2 (k H locs ls hl hc hP hD hS)
end KR
/-- a constructor's contract -/
def rmc (d mc ms : Nat) : Room := { frames := d, cells := mc, slots := ms, locals := 36 * d }
def CtC (l : Launch) (D : va_G) (cA : Nat → ClassId) (y : MethodName) (d mc ms : Nat) (av : List Value) (W0 X0 : va_W) (P : va_W → Prop) : Prop :=
  ∃ (bytes : ByteArray) (maxL : Nat), Cond.code y bytes maxL none ∈ GW ∧ maxL ≤ 17 ∧ ∀ sz, Met l y (Cond.code y bytes maxL none :: GW) (rmc d mc ms) (va_Pc av (fun U => U.heap.size = sz ∧ va_P D vwCl (W0 ++ X0) U.heap ∧ Ctx D cA U ∧ va_D (fun _ => True) (W0 ++ X0)))
    (fun _ st o t => (∃ X, o = .returned none ∧ P X ∧ va_P D vwCl (W0 ++ X) t.heap ∧ va_D (va_A (W0 ++ X0) sz) (W0 ++ X)) ∧ va_F (va_A (W0 ++ X0) sz) st t) mc ms (va_A (W0 ++ X0) sz)
set_option maxHeartbeats 1000000 in
theorem ofC {l : Launch} {D : va_G} {cA : Nat → ClassId} {y : MethodName} {bytes : ByteArray} {maxL d mc ms : Nat} {av : List Value} {W0 X0 : va_W} {P : va_W → Prop} (hc : Cond.code y bytes maxL none ∈ GW) (hml : maxL ≤ 17) (hpn : plainName y.cls = true) (hyn : y.name = "<init>") (hav : av.length ≤ maxL) (hcat : ∀ v ∈ av, v.category = 1)
    (body : ∀ (A : Nat → Prop) (K : Kx), Gk l D cA W0 A y.cls bytes maxL (rmc d mc ms) true K → (∀ (pc : Nat) (lv : List Value) (X : va_W) (cells slots : Nat), decode bytes pc = .ok (.return_, 1) → cells ≤ mc → slots ≤ ms → P X → K pc lv [] X cells slots) → K 0 av [] X0 0 0) : CtC l D cA y d mc ms av W0 X0 P := by
  refine ⟨bytes, maxL, hc, hml, fun sz => ?_⟩
  refine Met.ofW (cc := bytes) (maxL := maxL) (ret := none) hpn rfl ?_
  intro p e s m args below meth c s₁ B hmlc hv
  obtain ⟨rfl, hsz, hP, hctx, hD0⟩ := hv
  have hx := B.exec
  have hb := B.bytes
  have hr := B.returns
  have hts := atoms_spec (ws := Cond.code y bytes maxL none :: GW) B.pre
  have hown : s.vm.findClass y.cls = some m.cls := findClass_of_methodNamed B.named
  have hlocks := B.notSynchronized
  have hin : meth.name = "<init>" := ((name_of_methodNamed B.named B.method).1).trans hyn
  subst hsz
  have hD := hD0.self (sz := s.heap.size)
  have hl := lv_entry av (n := maxL) (by rw [lg_len av hcat]; exact hav)
  rw [lg_entry_eq]
  generalize (lg_sl av ++ List.replicate (maxL - (lg_sl av).length) Slot.unset).toArray = ls at hl ⊢
  rw [lvi_args av 0 hcat] at hl
  refine body (va_A (W0 ++ X0) s.heap.size) (fun pc lv st X cells slots => ∀ (H : Heap) (locs : List Loc) (ls : Array Slot), lv_has ls maxL (lvi 0 lv) → (∀ v ∈ lv, v.category = 1) → va_P D vwCl (W0 ++ X) H → va_D (va_A (W0 ++ X0) s.heap.size) (W0 ++ X) → va_S (va_A (W0 ++ X0) s.heap.size) s.heap H locs → W p l e (headSpec (Cond.code y bytes maxL none :: GW) (rmc d mc ms)).room s m av.toArray below meth c H locs cells slots (MQ below (fun _ st o t => (∃ X, o = .returned none ∧ P X ∧ va_P D vwCl (W0 ++ X) t.heap ∧ va_D (va_A (W0 ++ X0) s.heap.size) (W0 ++ X)) ∧ va_F (va_A (W0 ++ X0) s.heap.size) st t) av.toArray s mc ms (va_A (W0 ++ X0) s.heap.size)) (F0 m pc ls st)) ?_ ?_ s.heap [] ls hl hcat hP hD va_S.rf
  · exact ⟨p, e, s, m, av.toArray, below, meth, c, _, hx, hb, hmlc, hown, fun w hw => hts w (List.mem_cons_of_mem _ hw), hctx, fun q h => Or.inr h, fun _ => hin, rfl⟩
  · intro pc lv X cells slots hd h1 h2 hp H locs ls hl hc hP hD hS
    refine W.widen h1 h2 ?_
    exact W.vret hx hb hr (fun t ht hW => ⟨⟨X, rfl, hp, by rw [ht]; exact hP, hD⟩, hS.F ht⟩) hS.2.2 hd
def Mi (own : String) (idx : Nat) (y : MethodName) (n : Nat) : Prop :=
  (Cond.methodLink own idx y ∈ GW ∨ ∃ host, (own, idx, y, host) ∈ NM) ∧ Cond.instanceMethod y ∈ GW ∧ Cond.initialized y.cls ∈ GW ∧ y.name = "<init>" ∧ (y.cls ≠ "java/lang/invoke/MethodHandle" ∧ y.cls ≠ "java/lang/invoke/VarHandle" ∧ (parseMethodDescriptor y.desc).map (fun d => d.parameters.length) = some n)
set_option maxHeartbeats 1000000 in
theorem x_ctor {l : Launch} {D : va_G} {cA : Nat → ClassId} {W0 : va_W} {A : Nat → Prop} {own : String} {cc : ByteArray} {nL : Nat} {R : Room} {ini : Bool} {K : Kx} {pc : Nat} {lv st : List Value} {cells slots : Nat} (hK : Gk l D cA W0 A own cc nL R ini K) {y : MethodName} {d' mc ms idx na b : Nat} {e0 : va_E} {X1 : va_W} {As rest : List Value} {P : va_W → Prop} (hd : decode cc pc = .ok (.invokespecial idx, 3)) (hm : Mi own idx y na) (hC : CtC l D cA y d' mc ms (.ref b :: As) (W0 ++ X1) [(b, e0)] P) (hR : d' + 1 ≤ R.frames ∧ 36 * (d' + 1) ≤ R.locals) (hna : As.length = na) (hst : st = As.reverse ++ .ref b :: rest) (hrest : Nat.ble (rest.map fun v => v.category).sum 8 = true) (hcells : cells + mc ≤ R.cells) (hslots : slots + ms ≤ R.slots)
    (kk : ∀ X' : va_W, P X' → K (pc + 3) lv rest (X1 ++ X') (cells + mc) (slots + ms)) : K pc lv st (X1 ++ [(b, e0)]) cells slots := by
  obtain ⟨p, e, s, m, args, below, meth, c, Q, hx, hb, hml, hown, hts, hctx, hA, hini, rfl⟩ := hK
  obtain ⟨bytes, maxL, hcode, hmx, hM⟩ := hC
  obtain ⟨hlk, him, hin2, hyn, hfacts⟩ := hm
  intro H locs ls hl hc hP hD hS
  have hM := hM H.size
  rw [← List.append_assoc] at hP hD
  have hRm : (rmc d' mc ms).frames + 1 ≤ R.frames ∧ 8 + (maxL + 11) + (rmc d' mc ms).locals ≤ R.locals := by
    constructor
    · exact hR.1
    · show 8 + (maxL + 11) + 36 * d' ≤ R.locals
      have := hR.2
      omega
  have hfree : ∀ q, va_A ((W0 ++ X1) ++ [(b, e0)]) H.size q → A q := by
    intro q h
    rcases h with ⟨k, e, hk⟩ | h
    · exact hD.2 k (q, e) hk
    · exact hA q (Nat.le_trans hS.1 h)
  have hpre : PreS s H (va_Pc (.ref b :: As) (fun U => U.heap.size = H.size ∧ va_P D vwCl ((W0 ++ X1) ++ [(b, e0)]) U.heap ∧ Ctx D cA U ∧ va_D (fun _ => True) ((W0 ++ X1) ++ [(b, e0)]))) (.ref b :: As) :=
    ⟨fun a U f mk q => by
      obtain ⟨q0, q1, qP, qK, qD⟩ := q
      exact ⟨q0, q1, qP, Ctx.same (u := U) (U := U.calling f mk a) rfl qK, qD⟩, fun U hU hW => ⟨rfl, by rw [hU], by rw [hU]; exact hP, hctx.warm hW, hD.weaken (fun _ _ _ _ => trivial)⟩⟩
  have hrun : va_Run p l e R s m args below meth c H locs cells slots mc ms (F0 m pc ls st) rest ((fun _ st o t => (∃ X, o = .returned none ∧ P X ∧ va_P D vwCl ((W0 ++ X1) ++ X) t.heap ∧ va_D (va_A ((W0 ++ X1) ++ [(b, e0)]) H.size) ((W0 ++ X1) ++ X)) ∧ va_F (va_A ((W0 ++ X1) ++ [(b, e0)]) H.size) st t : Array Value → State → Outcome → State → Prop) (Value.ref b :: As).toArray) (va_A ((W0 ++ X1) ++ [(b, e0)]) H.size) := by
    subst hst
    rcases hlk with hlk | ⟨host, hlk⟩
    · exact va_runI (cells := cells) (slots := slots) ⟨hx, hb, hml, hown, hts⟩ hM ⟨callB_of na hts (gw_in hcode) rfl rfl rfl (hts _ hin2) (hts _ hlk) hfacts hRm, hyn, hts _ him⟩ hpre rfl hna hl.1 rfl (lv_room (Nat.le_of_ble_eq_true hrest)) hd ⟨hcells, hslots⟩
    · exact va_runIN (cells := cells) (slots := slots) ⟨hx, hb, hml, hown, hts⟩ hM ⟨va_cnB na hts (gw_in hcode) rfl rfl rfl (hctx.2.1.2 _ hlk) (hts _ hin2) hfacts hRm, hyn, hts _ him⟩ hpre rfl hna hl.1 rfl (lv_room (Nat.le_of_ble_eq_true hrest)) hd ⟨hcells, hslots⟩
  intro T hT X
  obtain ⟨v, st₀, t, T', L, h0, X', hL, e1, e2, ⟨⟨Xn, hv, hp, hw, hd9⟩, hz, hk⟩, stp⟩ := hrun T hT X
  cases hv
  rw [h0] at hz hk
  rw [List.append_assoc] at hw
  have hd9 : va_D (va_A ((W0 ++ X1) ++ [(b, e0)]) H.size) (W0 ++ (X1 ++ Xn)) := by
    rw [← List.append_assoc]; exact hd9
  obtain ⟨t2, a1, b1⟩ := kk Xn hp T'.heap (locs ++ L) ls hl hc (by rw [e1]; exact hw) (hd9.weaken (fun _ q _ h => hfree _ h))
    ⟨Nat.le_trans hS.1 (by rw [e1]; exact hz), fun q h1 h2 => by rw [e1, hk q (Nat.lt_of_lt_of_le h1 hS.1) (fun z => h2 (hfree q z))]; exact hS.2.1 q h1 h2, fun q hq => by
      rcases List.mem_append.mp hq with h | h
      · exact hS.2.2 q h
      · exact hfree _ (hL q h)⟩ T' rfl X'
  exact ⟨t2, stp t2 a1, b1⟩
