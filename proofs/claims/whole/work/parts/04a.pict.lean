/-! pictures: how the stores of the class and of the reference show the pure state -/
/-- the ring of link l holds the messages from lo up to hi -/
def RgP (f : Nat → Nat) (σ : Sg) (l lo hi : Nat) : Prop := ∀ n, lo ≤ n → n < hi → (f n = END → σ 12 l (n % 32) = -1) ∧ (f n ≠ END → σ 12 l (n % 32) = nI (f n / 1000 / 3) ∧ σ 13 l (n % 32) = nI (f n % 1000) - nI 100)
def LkP (a : Ab) (σ : Sg) (l : Nat) : Prop := σ 11 l 0 = nI (l / 3) ∧ σ 11 l 1 = nI (l % 3) ∧ σ 11 l 6 = nI (a 1 l 0) ∧ σ 11 l 7 = nI (a 2 l 0) ∧ σ 11 l 8 = nI (a 3 l 0) ∧ (∀ j, j < 32 → σ 14 l j = nI (a 6 l j)) ∧ RgP (a 4 l) σ l (a 2 l 0) (a 1 l 0)
def LkU (w : Nat) (a : Ab) (σ : Sg) (l : Nat) : Prop := σ 11 l 9 = nI (trn a l) ∧ σ 11 l 10 = nI (en (a 4 l) (trn a l)) ∧ σ 11 l 11 = nI (bnd a l (don w a (l % 3))) ∧ ∀ n, trn a l ≤ n → n < a 1 l 0 → σ 15 l (n % 32) = nI (a 5 l n)
def ShP (ru w : Nat) (a : Ab) (σ : Sg) (h : Nat) : Prop := σ 5 h 0 = nI ru ∧ σ 5 h 7 = nI (a 8 h 0) ∧ σ 5 h 8 = nI (1 - a 7 h 0) ∧ ∀ p, p < 2 → σ 9 h p = (wko ru w a (3 * p + h) (a 8 h 0)).1 ∧ σ 10 h p = (wko ru w a (3 * p + h) (a 8 h 0)).2
def ShU (ru w : Nat) (a : Ab) (σ : Sg) (h : Nat) : Prop := σ 5 h 6 = nI (don w a h) ∧ ∀ p, p < 2 → σ 7 h p = (wko ru w a (3 * p + h) (don w a h)).1 ∧ σ 8 h p = (wko ru w a (3 * p + h) (don w a h)).2
def NtP (s : Sp) (σ : Sg) : Prop := σ 3 0 1 = nI s.2.length ∧ σ 3 0 2 = nI (s.1 9 0 0) ∧ σ 3 0 3 = nI (s.1 9 1 0) ∧ ∀ i c, s.2[i]? = some c → σ 4 0 i = nI c
def GsP (w sl : Nat) (s : Sp) (σ : Sg) : Prop := σ 0 0 0 = nI sl ∧ σ 0 0 4 = nI (s.1 12 0 0) ∧ σ 0 0 5 = nI (s.1 9 2 0) ∧ σ 0 0 6 = nI (s.1 9 3 0) ∧ σ 0 0 7 = nI (s.1 9 4 0) ∧ σ 0 0 8 = nI (s.1 9 5 0) ∧ ∀ v, v < w → σ 1 0 v = nI (s.1 0 v 0)
/-- the class's picture -/
def CP (w sl ru : Nat) (s : Sp) (σ : Sg) : Prop := GsP w sl s σ ∧ NtP s σ ∧ (∀ l, l < 3 * w → LkP s.1 σ l) ∧ (∀ h, h < 3 → ShP ru w s.1 σ h) ∧ ∀ h, h < 3 → s.1 7 h 0 = 0 → ShU ru w s.1 σ h ∧ ∀ v, v < w → LkU w s.1 σ (3 * v + h)
/-- the reference's picture -/
def MP (w sl ru : Nat) (s : Sp) (σ : Sg) : Prop :=
  (σ 16 0 0 = nI w ∧ σ 16 0 1 = nI sl ∧ σ 16 0 2 = nI ru ∧ σ 16 0 3 = nI (s.1 12 0 0) ∧ σ 16 0 14 = nI s.2.length) ∧ (∀ v, v < w → σ 17 0 v = nI (s.1 0 v 0)) ∧
  (∀ l, l < 3 * w → σ 18 0 l = nI (s.1 1 l 0) ∧ σ 19 0 l = nI (s.1 2 l 0) ∧ σ 20 0 l = nI (s.1 3 l 0)) ∧ (∀ l n, l < 3 * w → n < 512 → σ 21 0 (512 * l + n) = nI (s.1 4 l n) ∧ σ 22 0 (512 * l + n) = nI (s.1 5 l n)) ∧
  (∀ l n, l < 3 * w → n < 32 → σ 23 0 (32 * l + n) = nI (s.1 6 l n)) ∧ (∀ h, h < 3 → σ 24 0 h = nI (s.1 7 h 0) ∧ σ 25 0 h = nI (s.1 8 h 0)) ∧ (∀ c, c < 6 → σ 26 0 c = nI (s.1 9 c 0)) ∧
  ∀ i c, s.2[i]? = some c → σ 27 0 i = nI (c % 2) ∧ σ 28 0 i = nI (lkc c) ∧ σ 29 0 i = nI (c / 32)
def okM (l m : Nat) : Prop := m = END ∨ (m / 1000 < 6 ∧ m / 1000 % 3 = l % 3 ∧ m % 1000 < 200)
/-- what holds of the pure state after N calls -/
def AI (w N : Nat) (s : Sp) : Prop :=
  (1 ≤ w ∧ w ≤ 4 ∧ N ≤ 512 ∧ s.2.length ≤ 24 ∧ s.1 12 0 0 ≤ 20 * N) ∧ (∀ v, v < w → s.1 0 v 0 ≤ N) ∧
  (∀ l, l < 3 * w → s.1 2 l 0 ≤ s.1 3 l 0 ∧ s.1 3 l 0 ≤ s.1 1 l 0 ∧ s.1 1 l 0 ≤ N ∧ s.1 1 l 0 ≤ s.1 2 l 0 + 24 ∧ (∀ j, j < 32 → s.1 6 l j ≤ s.1 12 0 0) ∧ (∀ n, n < s.1 1 l 0 → okM l (s.1 4 l n)) ∧ (∀ n, s.1 5 l n ≤ 1) ∧ (∀ n, s.1 1 l 0 ≤ n → s.1 5 l n = 0) ∧ s.1 2 l 0 = bnd s.1 l (s.1 8 (l % 3) 0) ∧ s.1 8 (l % 3) 0 ≤ en (s.1 4 l) (s.1 1 l 0)) ∧
  (∀ h, h < 3 → s.1 7 h 0 ≤ 1 ∧ (s.1 7 h 0 = 1 → ∀ v n, v < w → s.1 5 (3 * v + h) n = 0) ∧ (s.1 7 h 0 = 0 → s.1 8 h 0 ≤ don w s.1 h)) ∧
  ∀ c, c ∈ s.2 → c / 2 % 4 < w ∧ c / 8 % 4 < 3 ∧ c / 32 ≤ s.1 1 (lkc c) 0 ∧ (c % 2 = 0 → c / 32 < s.1 1 (lkc c) 0)
