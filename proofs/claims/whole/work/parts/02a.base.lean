/-! The world of both objects as one store: every int or boolean of the class's objects and of the reference's by (kind, number, place); the object graph is fixed once the two are made. -/
abbrev Sg : Type := Nat → Nat → Nat → Int32
abbrev Gc : Type := (Nat → Nat → Nat) × Nat × (Nat → ClassId) × va_G
/-- kind -> number of its class in vwCl, number of its fields -/
def oc (k : Nat) : Option (Nat × Nat) := match k with
  | 0 => some (3, 9)
  | 3 => some (1, 4)
  | 5 => some (2, 9)
  | 11 => some (0, 12)
  | 16 => some (4, 20)
  | _ => none
/-- fields that are references: kind, number, place -> what they refer to -/
def rf (k n j : Nat) : Option (Nat × Nat) := match k with
  | 0 => (match j with | 1 => some (1, 0) | 2 => some (2, 0) | 3 => some (3, 0) | _ => none)
  | 3 => (match j with | 0 => some (4, 0) | _ => none)
  | 5 => (match j with | 1 => some (6, n) | 2 => some (7, n) | 3 => some (8, n) | 4 => some (9, n) | 5 => some (10, n) | _ => none)
  | 11 => (match j with | 2 => some (12, n) | 3 => some (13, n) | 4 => some (14, n) | 5 => some (15, n) | _ => none)
  | 16 => (match j with | 4 => some (17, 0) | 5 => some (18, 0) | 6 => some (19, 0) | 7 => some (20, 0) | 8 => some (21, 0) | 9 => some (22, 0) | 10 => some (23, 0) | 11 => some (24, 0) | 12 => some (25, 0) | 13 => some (26, 0) | 15 => some (27, 0) | 16 => some (28, 0) | 17 => some (29, 0) | _ => none)
  | _ => none
/-- lengths of the arrays -/
def al (w k : Nat) : Nat := match k with
  | 1 => w
  | 2 => 3
  | 4 => 24
  | 6 => w
  | 7 => 2
  | 8 => 2
  | 9 => 2
  | 10 => 2
  | 12 => 32
  | 13 => 32
  | 14 => 32
  | 15 => 32
  | 17 => 4
  | 18 => 12
  | 19 => 12
  | 20 => 12
  | 21 => 6144
  | 22 => 6144
  | 23 => 384
  | 24 => 3
  | 25 => 3
  | 26 => 6
  | 27 => 24
  | 28 => 24
  | 29 => 24
  | _ => 0
/-- what the arrays hold: 0 ints, 1 booleans, 2 shards, 3 links -/
def aty (k : Nat) : Nat := match k with
  | 2 => 2
  | 6 => 3
  | 15 => 1
  | 22 => 1
  | 24 => 1
  | 27 => 1
  | _ => 0
def el (k n j : Nat) : Nat × Nat := match k with
  | 2 => (5, j)
  | _ => (11, 3 * j + n)
def fixk (k : Nat) : Bool := Nat.blt k 5 || (Nat.ble 16 k && Nat.blt k 30)
def ids (w : Nat) : List (Nat × Nat) := ((List.range 30).filter fixk).map (fun k => (k, 0)) ++ ((List.range 3).flatMap (fun h => [(5, h), (6, h), (7, h), (8, h), (9, h), (10, h)]) ++ (List.range (3 * w)).flatMap (fun l => [(11, l), (12, l), (13, l), (14, l), (15, l)]))
def Inn (w k n : Nat) : Prop := (k, n) ∈ ids w
theorem in_fix {w k : Nat} (h : fixk k = true) : Inn w k 0 := by
  have hk : k < 30 := by
    simp only [fixk, Nat.blt_eq, Bool.or_eq_true, Bool.and_eq_true, Nat.ble_eq] at h
    omega
  exact List.mem_append_left _ (List.mem_map.mpr ⟨k, List.mem_filter.mpr ⟨List.mem_range.mpr hk, h⟩, rfl⟩)
theorem in_sh {w k h : Nat} (hk : (Nat.ble 5 k && Nat.blt k 11) = true) (hh : h < 3) : Inn w k h := by
  simp only [Nat.blt_eq, Bool.and_eq_true, Nat.ble_eq] at hk
  refine List.mem_append_right _ (List.mem_append_left _ (List.mem_flatMap.mpr ⟨h, List.mem_range.mpr hh, ?_⟩))
  rcases (by omega : k = 5 ∨ k = 6 ∨ k = 7 ∨ k = 8 ∨ k = 9 ∨ k = 10) with r | r | r | r | r | r <;> subst r <;> simp
theorem in_lk {w k l : Nat} (hk : (Nat.ble 11 k && Nat.blt k 16) = true) (hl : l < 3 * w) : Inn w k l := by
  simp only [Nat.blt_eq, Bool.and_eq_true, Nat.ble_eq] at hk
  refine List.mem_append_right _ (List.mem_append_right _ (List.mem_flatMap.mpr ⟨l, List.mem_range.mpr hl, ?_⟩))
  rcases (by omega : k = 11 ∨ k = 12 ∨ k = 13 ∨ k = 14 ∨ k = 15) with r | r | r | r | r <;> subst r <;> simp
def fds (g : Gc) (k n N : Nat) (r : Nat → Int32) : List Value := (List.range N).map (fun j => match rf k n j with
  | some q => Value.ref (g.1 q.1 q.2)
  | none => Value.int (r j))
def arq (g : Gc) (k n : Nat) (r : Nat → Int32) : (Nat → Int32) ⊕ (Nat → Int64) ⊕ (Nat → UInt32) ⊕ (Nat → UInt64) ⊕ (Nat → Option Nat) := match aty k with
  | 0 => .inl r
  | 1 => .inl r
  | _ => .inr (.inr (.inr (.inr (fun j => some (g.1 (el k n j).1 (el k n j).2)))))
def cellE (g : Gc) (k n : Nat) (r : Nat → Int32) : va_E := match oc k with
  | some q => .inr (q.1, fds g k n q.2 r)
  | none => .inl (g.2.2.1 (aty k), al g.2.1 k, arq g k n r)
def wd (g : Gc) (σ : Sg) : va_W := (ids g.2.1).map (fun q => (g.1 q.1 q.2, cellE g q.1 q.2 (σ q.1 q.2)))
def tys (g : Gc) : List (ClassId × FieldType) := [(g.2.2.1 0, .int), (g.2.2.1 1, .boolean), (g.2.2.1 2, .object "GradientShards$Shard"), (g.2.2.1 3, .object "GradientShards$Link")]
def Ag (g : Gc) (a : Nat) : Prop := ∃ k n, Inn g.2.1 k n ∧ a = g.1 k n
def Gok (g : Gc) : Prop := ∀ σ, va_D (Ag g) (wd g σ)
def upr (σ : Sg) (k n : Nat) (r : Nat → Int32) : Sg := fun k' n' => if k' = k ∧ n' = n then r else σ k' n'
def up (σ : Sg) (k n j : Nat) (v : Int32) : Sg := upr σ k n (upd (σ k n) j v)
theorem upr_at (σ : Sg) (k n : Nat) (r : Nat → Int32) : upr σ k n r k n = r := by simp [upr]
theorem upr_ne {σ : Sg} {k n k' n' : Nat} {r : Nat → Int32} (h : ¬ (k' = k ∧ n' = n)) : upr σ k n r k' n' = σ k' n' := by simp [upr, h]
theorem up_eq (σ : Sg) (k n j : Nat) (v : Int32) (k' n' j' : Nat) : up σ k n j v k' n' j' = if k' = k ∧ n' = n ∧ j' = j then v else σ k' n' j' := by
  unfold up upr
  by_cases h : k' = k ∧ n' = n
  · obtain ⟨rfl, rfl⟩ := h
    simp [upd]
  · rw [if_neg h, if_neg (fun q => h ⟨q.1, q.2.1⟩)]
theorem wd_at (g : Gc) (σ : Sg) {k n : Nat} (h : Inn g.2.1 k n) : ∃ q0 : Nat, (wd g σ)[q0]? = some (g.1 k n, cellE g k n (σ k n)) ∧ (ids g.2.1)[q0]? = some (k, n) := by
  obtain ⟨i, hi⟩ := List.mem_iff_getElem?.mp h
  exact ⟨i, by simp [wd, List.getElem?_map, hi], hi⟩
theorem wd_set {g : Gc} {σ : Sg} {k n q0 : Nat} {r : Nat → Int32} (hg : Gok g) (hq : (ids g.2.1)[q0]? = some (k, n)) : (wd g σ).set q0 (g.1 k n, cellE g k n r) = wd g (upr σ k n r) := by
  have hlt : q0 < (ids g.2.1).length := (List.getElem?_eq_some_iff.mp hq).1
  have hat : ∀ (τ : Sg) (i : Nat), (wd g τ)[i]? = ((ids g.2.1)[i]?).map (fun q => (g.1 q.1 q.2, cellE g q.1 q.2 (τ q.1 q.2))) := fun τ i => by simp [wd]
  have hlen : (wd g σ).length = (ids g.2.1).length := by simp [wd]
  apply List.ext_getElem?
  intro i
  rw [List.getElem?_set]
  by_cases hi : q0 = i
  · subst hi
    rw [if_pos rfl, if_pos (by omega), hat, hq]
    simp [upr_at]
  · rw [if_neg hi, hat, hat]
    cases hx : (ids g.2.1)[i]? with
    | none => rfl
    | some q =>
      obtain ⟨k', n'⟩ := q
      have hne : ¬ (k' = k ∧ n' = n) := by
        rintro ⟨rfl, rfl⟩
        exact hi ((hg σ).1 q0 i _ _ (by rw [hat, hq]; rfl) (by rw [hat, hx]; rfl) rfl)
      simp [upr_ne hne]
theorem fds_get {g : Gc} {k n N j : Nat} {r : Nat → Int32} (hj : j < N) : (fds g k n N r)[j]? = some (match rf k n j with
  | some q => Value.ref (g.1 q.1 q.2)
  | none => Value.int (r j)) := by
  simp [fds, hj]
theorem fds_set {g : Gc} {k n N j : Nat} {r : Nat → Int32} {v : Int32} (hr : rf k n j = none) : (fds g k n N r).set j (.int v) = fds g k n N (upd r j v) := by
  apply List.ext_getElem?
  intro i
  rw [List.getElem?_set]
  by_cases hi : j = i
  · subst hi
    rw [if_pos rfl]
    by_cases hlt : j < N
    · rw [if_pos (by simp [fds, hlt]), fds_get hlt, hr]
      simp [upd]
    · rw [if_neg (by simp [fds]; omega)]
      simp [fds, hlt]
  · rw [if_neg hi]
    by_cases hlt : i < N
    · rw [fds_get hlt, fds_get hlt]
      cases rf k n i with
      | some q => rfl
      | none => simp [upd, Ne.symm hi]
    · simp [fds, hlt]
theorem fds_len {g : Gc} {k n N : Nat} {r : Nat → Int32} : (fds g k n N r).length = N := by simp [fds]
theorem cell_o {g : Gc} {k n ci N : Nat} {r : Nat → Int32} (h : oc k = some (ci, N)) : cellE g k n r = .inr (ci, fds g k n N r) := by simp [cellE, h]
theorem cell_a {g : Gc} {k n : Nat} {r : Nat → Int32} (h : oc k = none) : cellE g k n r = .inl (g.2.2.1 (aty k), al g.2.1 k, arq g k n r) := by simp [cellE, h]
theorem arq_i {g : Gc} {k n : Nat} {r : Nat → Int32} (h : aty k = 0) : arq g k n r = .inl r := by simp [arq, h]
theorem arq_z {g : Gc} {k n : Nat} {r : Nat → Int32} (h : aty k = 1) : arq g k n r = .inl r := by simp [arq, h]
theorem arq_r {g : Gc} {k n : Nat} {r : Nat → Int32} (h : 2 ≤ aty k) : arq g k n r = .inr (.inr (.inr (.inr (fun j => some (g.1 (el k n j).1 (el k n j).2))))) := by
  unfold arq
  split
  · omega
  · omega
  · rfl
def NW (U : State) : Prop := (∀ q ∈ NF, va_Nw (.fieldLinkNest q.1 q.2.1 q.2.2.1 q.2.2.2.1 q.2.2.2.2.1 q.2.2.2.2.2) U) ∧ ∀ q ∈ NM, va_Nw (.methodLinkNest q.1 q.2.1 q.2.2.1 q.2.2.2) U
theorem NW.warm {s U : State} (hW : s.WarmedH U.vm) (h : NW s) : NW U := ⟨fun q hq => va_Nw.warmF hW (h.1 q hq), fun q hq => va_Nw.warmM hW (h.2 q hq)⟩
theorem NW.same {u U : State} (e : u.vm = U.vm) (h : NW u) : NW U := ⟨fun q hq => va_Nw.same rfl e (h.1 q hq), fun q hq => va_Nw.same rfl e (h.2 q hq)⟩
def Stt (g : Gc) (σ : Sg) (U : State) : Prop := va_P g.2.2.2 vwCl (wd g σ) U.heap ∧ va_K g.2.2.2 vwCl (tys g) U ∧ NW U
def Pst (g : Gc) (P : Option Value → Sg → Prop) : Array Value → State → Outcome → State → Prop := fun _ st o t => (∃ (r : Option Value) (τ : Sg), o = .returned r ∧ P r τ ∧ va_P g.2.2.2 vwCl (wd g τ) t.heap) ∧ va_F (Ag g) st t
def rmd (d : Nat) : Room := { frames := d, cells := 0, slots := 0, locals := 36 * d }
/-- the contract of a method over the whole store -/
def Ct (l : Launch) (g : Gc) (y : MethodName) (d : Nat) (av : List Value) (σ : Sg) (P : Option Value → Sg → Prop) : Prop :=
  ∃ (bytes : ByteArray) (maxL : Nat) (ret : Option FieldType), Cond.code y bytes maxL ret ∈ GW ∧ maxL ≤ 17 ∧ Met l y (Cond.code y bytes maxL ret :: GW) (rmd d) (va_Pc av (Stt g σ)) (Pst g P) 0 0 (Ag g)
theorem stt_blind (g : Gc) (σ : Sg) (av : List Value) : FrameBlind (va_Pc av (Stt g σ)) := fun a U f mk q => by
  obtain ⟨q0, qP, qK, qN⟩ := q
  exact ⟨q0, qP, va_K.moved (u := U) (U := U.calling f mk a) (Vm.Alike.refl U.vm) qK, NW.same (u := U) (U := U.calling f mk a) rfl qN⟩
theorem gw_in {c : Cond} (h : c ∈ GW) : GoodIn GW (c :: GW) := fun w hw => by
  have hm : w ∈ GW := by
    rcases List.mem_cons.mp hw with rfl | h2
    · exact h
    · exact h2
  exact ⟨hm, good_of_word (gw_good w hm)⟩
/-! locals -/
def lvi : Nat → List Value → List (Nat × Value)
  | _, [] => []
  | b, v :: t => (b, v) :: lvi (b + 1) t
def stl : List Value → Nat → Value → List Value
  | [], _, v => [v]
  | _ :: t, 0, v => v :: t
  | a :: t, n + 1, v => a :: stl t n v
theorem lvi_ge : ∀ (lv : List Value) (b : Nat) (q : Nat × Value), q ∈ lvi b lv → b ≤ q.1
  | [], _, _, h => by cases h
  | v :: t, b, q, h => by
    rcases List.mem_cons.mp h with rfl | h
    · exact Nat.le_refl _
    · exact Nat.le_of_succ_le (lvi_ge t (b + 1) q h)
theorem lvi_get : ∀ (lv : List Value) (b i : Nat), (lvi b lv)[i]? = (lv[i]?).map (fun v => (b + i, v))
  | [], _, _ => by simp [lvi]
  | v :: t, b, 0 => by simp [lvi]
  | v :: t, b, i + 1 => by
    rw [lvi, List.getElem?_cons_succ, List.getElem?_cons_succ, lvi_get t (b + 1) i]
    congr 1
    funext w
    rw [show b + 1 + i = b + (i + 1) by omega]
theorem lvi_at {ls : Array Slot} {nL : Nat} {lv : List Value} (h : lv_has ls nL (lvi 0 lv)) {i : Nat} {v : Value} (hi : lv[i]? = some v) : ls[i]? = some (.val v) :=
  lv_at h i (by rw [lvi_get, hi]; simp)
theorem stl_sub : ∀ (lv : List Value) (i b : Nat) (v : Value) (q : Nat × Value), i ≤ lv.length → q ∈ lvi b (stl lv i v) → q = (b + i, v) ∨ (q ∈ lvi b lv ∧ q.1 ≠ b + i)
  | [], i, b, v, q, hi, h => by
    have h0 : i = 0 := Nat.le_zero.mp hi
    subst h0
    rcases List.mem_cons.mp h with rfl | h
    · exact Or.inl rfl
    · cases h
  | a :: t, 0, b, v, q, hi, h => by
    rcases List.mem_cons.mp h with rfl | h
    · exact Or.inl rfl
    · exact Or.inr ⟨List.mem_cons_of_mem _ h, fun e => by have := lvi_ge t (b + 1) q h; omega⟩
  | a :: t, i + 1, b, v, q, hi, h => by
    rcases List.mem_cons.mp h with rfl | h
    · exact Or.inr ⟨List.mem_cons_self, by show b ≠ b + (i + 1); omega⟩
    · rcases stl_sub t i (b + 1) v q (Nat.le_of_succ_le_succ hi) h with e | ⟨e1, e2⟩
      · exact Or.inl (by rw [e]; simp only [Prod.mk.injEq, and_true]; omega)
      · exact Or.inr ⟨List.mem_cons_of_mem _ e1, by omega⟩
theorem stl_mem : ∀ (lv : List Value) (i : Nat) (v w : Value), w ∈ stl lv i v → w = v ∨ w ∈ lv
  | [], i, v, w, h => by
    rcases List.mem_cons.mp h with e | h
    · exact Or.inl e
    · cases h
  | a :: t, 0, v, w, h => by
    rcases List.mem_cons.mp h with e | h
    · exact Or.inl e
    · exact Or.inr (List.mem_cons_of_mem _ h)
  | a :: t, i + 1, v, w, h => by
    rcases List.mem_cons.mp h with e | h
    · exact Or.inr (by rw [e]; exact List.mem_cons_self)
    · rcases stl_mem t i v w h with e | e
      · exact Or.inl e
      · exact Or.inr (List.mem_cons_of_mem _ e)
theorem lvi_cat : ∀ (lv : List Value) (b : Nat) (q : Nat × Value), (∀ v ∈ lv, v.category = 1) → q ∈ lvi b lv → q.2.category = 1
  | [], _, _, _, h => by cases h
  | v :: t, b, q, hc, h => by
    rcases List.mem_cons.mp h with rfl | h
    · exact hc _ List.mem_cons_self
    · exact lvi_cat t (b + 1) q (fun v hv => hc v (List.mem_cons_of_mem _ hv)) h
theorem stl_has {ls : Array Slot} {nL i : Nat} {lv : List Value} {v : Value} (hc : ∀ v ∈ lv, v.category = 1) (hi : i ≤ lv.length) (h : lv_has ls nL ((i, v) :: (lvi 0 lv).filter (fun q => !(q.1 == i) && !(q.1 + 1 == i && q.2.category == 2)))) : lv_has ls nL (lvi 0 (stl lv i v)) := by
  refine ⟨h.1, h.2.1, fun q hq => h.2.2 q ?_⟩
  rcases stl_sub lv i 0 v q hi hq with e | ⟨e1, e2⟩
  · rw [e, Nat.zero_add]; exact List.mem_cons_self
  · refine List.mem_cons_of_mem _ (List.mem_filter.mpr ⟨e1, ?_⟩)
    have hcat := lvi_cat lv 0 q hc e1
    have hne : q.1 ≠ i := by omega
    simp [hne, hcat]
theorem stl_cat {lv : List Value} {i : Nat} {v : Value} (hc : ∀ v ∈ lv, v.category = 1) (hv : v.category = 1) : ∀ w ∈ stl lv i v, w.category = 1 := fun w hw => by
  rcases stl_mem lv i v w hw with e | e
  · rw [e]; exact hv
  · exact hc w e
theorem lvi_take {ls : Array Slot} {nL : Nat} {lv lv' : List Value} (h : lv_has ls nL (lvi 0 lv)) (hp : ∀ (i : Nat) (v : Value), lv'[i]? = some v → lv[i]? = some v) : lv_has ls nL (lvi 0 lv') := by
  refine ⟨h.1, h.2.1, fun q hq => ?_⟩
  obtain ⟨i, hi⟩ := List.mem_iff_getElem?.mp hq
  rw [lvi_get] at hi
  cases hx : lv'[i]? with
  | none => rw [hx] at hi; cases hi
  | some v =>
    rw [hx] at hi
    cases hi
    rw [Nat.zero_add]
    exact lvi_at h (hp i v hx)
theorem lvi_args : ∀ (av : List Value) (b : Nat), (∀ v ∈ av, v.category = 1) → lv_args b av = lvi b av
  | [], _, _ => rfl
  | v :: t, b, h => by
    have hv : ¬ v.category = 2 := by rw [h v List.mem_cons_self]; decide
    rw [lv_args, if_neg hv, lvi, lvi_args t (b + 1) (fun w hw => h w (List.mem_cons_of_mem _ hw))]
theorem lg_len : ∀ (av : List Value), (∀ v ∈ av, v.category = 1) → (lg_sl av).length = av.length
  | [], _ => rfl
  | v :: t, h => by
    have hv : ¬ v.category = 2 := by rw [h v List.mem_cons_self]; decide
    have e : lg_sl (v :: t) = [.val v] ++ lg_sl t := by simp [lg_sl, hv]
    rw [e, List.length_append, lg_len t (fun w hw => h w (List.mem_cons_of_mem _ hw))]
    simp only [List.length_cons, List.length_nil]
    omega
