/-! stores -/
theorem up_same (σ : Sg) (k n j : Nat) (v w : Int32) : up (up σ k n j v) k n j w = up σ k n j w := by
  funext k' n' j'
  simp only [up_eq]
  split <;> rfl
theorem up_comm (σ : Sg) {k n j k2 n2 j2 : Nat} (v w : Int32) (h : ¬ (k = k2 ∧ n = n2 ∧ j = j2)) : up (up σ k n j v) k2 n2 j2 w = up (up σ k2 n2 j2 w) k n j v := by
  funext k' n' j'
  simp only [up_eq]
  by_cases h1 : k' = k2 ∧ n' = n2 ∧ j' = j2
  · rw [if_pos h1, if_neg (fun q => h ⟨q.1.symm.trans h1.1, q.2.1.symm.trans h1.2.1, q.2.2.symm.trans h1.2.2⟩), if_pos h1]
  · rw [if_neg h1, if_neg h1]
theorem up_self (σ : Sg) (k n j : Nat) : up σ k n j (σ k n j) = σ := by
  funext k' n' j'
  rw [up_eq]
  split
  next h => obtain ⟨rfl, rfl, rfl⟩ := h; rfl
  next => rfl
theorem up_id {σ : Sg} {k n j : Nat} {v : Int32} (h : σ k n j = v) : up σ k n j v = σ := by rw [← h]; exact up_self σ k n j
theorem up_k {σ : Sg} {k n j k' : Nat} {v : Int32} (h : k' ≠ k) : up σ k n j v k' = σ k' := by
  funext n' j'
  rw [up_eq, if_neg (fun q => h q.1)]
theorem up_kn {σ : Sg} {k n j k' n' : Nat} {v : Int32} (h : ¬ (k' = k ∧ n' = n)) : up σ k n j v k' n' = σ k' n' := by
  funext j'
  rw [up_eq, if_neg (fun q => h ⟨q.1, q.2.1⟩)]
theorem upr_k {σ : Sg} {k n k' : Nat} {r : Nat → Int32} (h : k' ≠ k) : upr σ k n r k' = σ k' := by
  funext n'
  exact upr_ne (fun q => h q.1)
theorem upr_upr (σ : Sg) (k n : Nat) (r r' : Nat → Int32) : upr (upr σ k n r) k n r' = upr σ k n r' := by
  funext k' n'
  unfold upr
  split <;> rfl
theorem up_upr (σ : Sg) (k n j : Nat) (r : Nat → Int32) (v : Int32) : up (upr σ k n r) k n j v = upr σ k n (upd r j v) := by
  unfold up
  rw [upr_at, upr_upr]
theorem upr_id {σ : Sg} {k n : Nat} {r : Nat → Int32} (h : r = σ k n) : upr σ k n r = σ := by
  funext k' n'
  unfold upr
  split
  next q => rw [q.1, q.2, h]
  next => rfl
theorem neg1 {q : Nat} (h : q < 2 ^ 31) : ¬ nI q = -1 := fun e => by
  have h1 := nI_toInt h
  rw [e] at h1
  have h2 : (-1 : Int32).toInt = -1 := by decide
  omega
theorem mx_nI {a b : Nat} (ha : a < 2 ^ 31) (hb : b < 2 ^ 31) : (if nI a < nI b then nI b else nI a) = nI (max a b) := by
  by_cases h : a < b
  · rw [if_pos ((nI_ltI ha hb).mpr h), Nat.max_eq_right (by omega)]
  · rw [if_neg (fun z => h ((nI_ltI ha hb).mp z)), Nat.max_eq_left (by omega)]
theorem mn_nI {a b : Nat} (ha : a < 2 ^ 31) (hb : b < 2 ^ 31) : (if nI b < nI a then nI b else nI a) = nI (min a b) := by
  by_cases h : b < a
  · rw [if_pos ((nI_ltI hb ha).mpr h), Nat.min_eq_right (by omega)]
  · rw [if_neg (fun z => h ((nI_ltI hb ha).mp z)), Nat.min_eq_left (by omega)]
theorem i_asub (s a b : Int32) : s + (a - b) = s + a - b := by rw [Int32.sub_eq_add_neg, Int32.sub_eq_add_neg, Int32.add_assoc]
