/-! what the constructors made, as the store -/
def sig0 (w sl ru : Nat) : Sg := fun k n j => if k = 0 then (if j = 0 then nI sl else 0) else if k = 5 then (if j = 0 then nI ru else if j = 8 then nI 1 else 0) else if k = 11 then (if j = 0 then nI (n / 3) else if j = 1 then nI (n % 3) else 0) else if k = 16 then (if j = 0 then nI w else if j = 1 then nI sl else if j = 2 then nI ru else 0) else 0
def rho (z : Nat → Nat) (a : Nat → Nat → Nat) (c : Nat → Nat → Nat → Nat) (m : Nat → Nat) : Nat → Nat → Nat := fun k n => if k < 5 then z k else if k < 11 then a n k else if k < 16 then c (n % 3) (n / 3) k else m k
def lkid (i h : Nat) : List (Nat × Nat) := [(11, 3 * i + h), (12, 3 * i + h), (13, 3 * i + h), (14, 3 * i + h), (15, 3 * i + h)]
def shid (h : Nat) : List (Nat × Nat) := [(5, h), (7, h), (8, h), (9, h), (10, h), (6, h)]
def mdid : List (Nat × Nat) := [(16, 0), (17, 0), (18, 0), (19, 0), (20, 0), (21, 0), (22, 0), (23, 0), (24, 0), (25, 0), (26, 0), (27, 0), (28, 0), (29, 0)]
def ord (w : Nat) : List (Nat × Nat) := (([(0, 0), (1, 0), (2, 0)] ++ (List.range 3).flatMap (fun h => shid h ++ (List.range w).flatMap (fun i => lkid i h))) ++ [(3, 0), (4, 0)]) ++ mdid
theorem ord_perm {w : Nat} (h1 : 1 ≤ w) (h4 : w ≤ 4) : (ord w).Perm (ids w) := by
  rcases (by omega : w = 1 ∨ w = 2 ∨ w = 3 ∨ w = 4) with r | r | r | r <;> subst r <;> decide +kernel
def cellX (g : Gc) (k n : Nat) (r : Nat → Int32) : va_E := if k = 2 ∨ k = 6 then .inl (g.2.2.1 (aty k), al g.2.1 k, rfa (cut (fun j => g.1 (el k n j).1 (el k n j).2) (al g.2.1 k))) else cellE g k n r
def FX (g : Gc) (σ : Sg) (q : Nat × Nat) : Nat × va_E := (g.1 q.1 q.2, cellX g q.1 q.2 (σ q.1 q.2))
section BK
variable {cA : Nat → ClassId} {D : va_G} {w sl ru : Nat} {z m : Nat → Nat} {a : Nat → Nat → Nat} {c : Nat → Nat → Nat → Nat}
theorem lk_F {i h : Nat} (hh : h < 3) : (lkid i h).map (FX (rho z a c m, w, cA, D) (sig0 w sl ru)) = LB cA (c h i) i h := by
  have e1 : (3 * i + h) % 3 = h := by omega
  have e2 : (3 * i + h) / 3 = i := by omega
  have e : (lkid i h).map (FX (rho z a c m, w, cA, D) (sig0 w sl ru)) = LB cA (c ((3 * i + h) % 3) ((3 * i + h) / 3)) ((3 * i + h) / 3) ((3 * i + h) % 3) := rfl
  rw [e, e1, e2]
theorem sh_F {h : Nat} (hh : h < 3) : (shid h).map (FX (rho z a c m, w, cA, D) (sig0 w sl ru)) = SB cA w ru (a h) (cut (fun j => c h j 11) w) := by
  have e : (shid h).map (FX (rho z a c m, w, cA, D) (sig0 w sl ru)) = SB cA w ru (a h) (cut (fun j => c ((3 * j + h) % 3) ((3 * j + h) / 3) 11) w) := rfl
  rw [e]
  congr 2
  funext j
  rw [show (3 * j + h) % 3 = h by omega, show (3 * j + h) / 3 = j by omega]
theorem blk : ([] ++ GH cA w sl ru z a c) ++ MB cA w sl ru m = (ord w).map (FX (rho z a c m, w, cA, D) (sig0 w sl ru)) := by
  unfold ord GH HF SH LF
  rw [List.map_append, List.map_append, List.map_append, List.map_flatMap]
  have e1 : (List.range 3).flatMap (fun h => SB cA w ru (a h) (cut (fun j => c h j 11) w) ++ (List.range w).flatMap (fun i => LB cA (c h i) i h)) = (List.range 3).flatMap (fun h => (shid h ++ (List.range w).flatMap (fun i => lkid i h)).map (FX (rho z a c m, w, cA, D) (sig0 w sl ru))) := by
    refine fm_congr _ (fun h hh => ?_)
    have hh := List.mem_range.mp hh
    rw [List.map_append, sh_F hh, List.map_flatMap]
    congr 1
    exact fm_congr _ (fun i _ => (lk_F hh).symm)
  rw [← e1]
  rfl
theorem arrV_ext {cI : ClassId} {N : Nat} {f g : Nat → Value} (h : ∀ j, j < N → f j = g j) : arrV cI N f = arrV cI N g := by
  unfold arrV
  congr 1
  congr 1
  funext j
  exact h j.val j.isLt
theorem at_X {g : Gc} {k n : Nat} {r : Nat → Int32} {H : Heap} (h : va_at D vwCl (g.1 k n, cellX g k n r) H) : va_at D vwCl (g.1 k n, cellE g k n r) H := by
  by_cases hk : k = 2 ∨ k = 6
  · have e : vp_cell (g.2.2.1 (aty k)) (al g.2.1 k, rfa (cut (fun j => g.1 (el k n j).1 (el k n j).2) (al g.2.1 k))) = vp_cell (g.2.2.1 (aty k)) (al g.2.1 k, arq g k n r) := by
      rw [arq_r (by rcases hk with r | r <;> subst r <;> decide)]
      show arrV (g.2.2.1 (aty k)) (al g.2.1 k) (fun j => va_rf (cut (fun j => g.1 (el k n j).1 (el k n j).2) (al g.2.1 k) j)) = arrV (g.2.2.1 (aty k)) (al g.2.1 k) (fun j => va_rf (some (g.1 (el k n j).1 (el k n j).2)))
      refine arrV_ext (fun j hj => ?_)
      simp [cut, hj]
    have ho : oc k = none := by rcases hk with r | r <;> subst r <;> rfl
    unfold cellX at h
    rw [if_pos hk] at h
    rw [cell_a ho]
    show H[g.1 k n]? = some (vp_cell _ _)
    rw [← e]
    exact h
  · unfold cellX at h
    rw [if_neg hk] at h
    exact h
theorem nod_of {A : Nat → Prop} {g : Gc} {σ : Sg} {L : List (Nat × Nat)} (h : va_D A (L.map (FX g σ))) : (L.map (fun q => g.1 q.1 q.2)).Nodup := by
  rw [List.Nodup, List.pairwise_iff_getElem]
  intro i j hi hj hij e
  rw [List.length_map] at hi hj
  have := h.1 i j (FX g σ L[i]) (FX g σ L[j]) (by rw [List.getElem?_map, List.getElem?_eq_getElem hi]; rfl) (by rw [List.getElem?_map, List.getElem?_eq_getElem hj]; rfl) (by simpa [FX] using e)
  omega
theorem ok_of {A : Nat → Prop} {g : Gc} {σ0 : Sg} {L : List (Nat × Nat)} (hp : L.Perm (ids g.2.1)) (h : va_D A (L.map (FX g σ0))) : Gok g := by
  intro σ
  have hn : ((ids g.2.1).map (fun q => g.1 q.1 q.2)).Nodup := (hp.map _).nodup_iff.mp (nod_of h)
  constructor
  · intro i j p q hi hj e
    simp only [wd, List.getElem?_map, Option.map_eq_some_iff] at hi hj
    obtain ⟨x, hx, rfl⟩ := hi
    obtain ⟨y, hy, rfl⟩ := hj
    have hlt : i < ((ids g.2.1).map (fun q => g.1 q.1 q.2)).length := by rw [List.length_map]; exact (List.getElem?_eq_some_iff.mp hx).1
    refine (List.getElem?_inj hlt hn).mp ?_
    rw [List.getElem?_map, List.getElem?_map, hx, hy]
    simpa using e
  · intro k q hq
    simp only [wd, List.getElem?_map, Option.map_eq_some_iff] at hq
    obtain ⟨x, hx, rfl⟩ := hq
    exact ⟨x.1, x.2, List.mem_of_getElem? hx, rfl⟩
theorem wd_of {g : Gc} {σ : Sg} {L : List (Nat × Nat)} {H : Heap} (hp : L.Perm (ids g.2.1)) (h : va_P D vwCl (L.map (FX g σ)) H) : va_P D vwCl (wd g σ) H := by
  intro k q hq
  simp only [wd, List.getElem?_map, Option.map_eq_some_iff] at hq
  obtain ⟨x, hx, rfl⟩ := hq
  obtain ⟨i, hi⟩ := List.mem_iff_getElem?.mp (hp.mem_iff.mpr (List.mem_of_getElem? hx))
  exact at_X (h i (FX g σ x) (by rw [List.getElem?_map, hi]; rfl))
theorem ge_of {A : Nat → Prop} {g : Gc} {σ : Sg} {L : List (Nat × Nat)} (hp : L.Perm (ids g.2.1)) (h : va_D A (L.map (FX g σ))) {q : Nat} (hq : Ag g q) : A q := by
  obtain ⟨k, n, hi, rfl⟩ := hq
  obtain ⟨i, hi⟩ := List.mem_iff_getElem?.mp (hp.mem_iff.mpr hi)
  exact h.2 i (FX g σ (k, n)) (by rw [List.getElem?_map, hi]; rfl)
end BK
