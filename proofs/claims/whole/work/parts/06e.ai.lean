/-! the invariant over deliver, tick, run -/
theorem pk_get {s : Sp} {j : Nat} (hj : j < s.2.length) : s.2[j]? = some (s.2.getD j 0) := by
  rw [List.getD_eq_getElem?_getD, List.getElem?_eq_getElem hj]
  rfl
theorem AI_pk {w N : Nat} {s : Sp} (hA : AI w N s) {j : Nat} (hj : j < s.2.length) : s.2.getD j 0 / 2 % 4 < w ∧ s.2.getD j 0 / 8 % 4 < 3 ∧ s.2.getD j 0 / 32 ≤ s.1 1 (lkc (s.2.getD j 0)) 0 ∧ (s.2.getD j 0 % 2 = 0 → s.2.getD j 0 / 32 < s.1 1 (lkc (s.2.getD j 0)) 0) :=
  hA.2.2.2.2 _ (List.mem_of_getElem? (pk_get hj))
theorem lkc_lt {w c : Nat} (h1 : c / 2 % 4 < w) (h2 : c / 8 % 4 < 3) : lkc c < 3 * w ∧ lkc c % 3 = c / 8 % 4 ∧ lkc c / 3 = c / 2 % 4 := by
  unfold lkc
  generalize c / 2 % 4 = u at *
  generalize c / 8 % 4 = v at *
  omega
theorem AI_ack {w N : Nat} {s : Sp} {l : Nat} (hA : AI w N s) (hl : l < 3 * w) : AI w N (snd s (cod 1 l (trn s.1 l))) := by
  have h1 := hA.1
  obtain ⟨c1, c2, c3, c4, c5⟩ := cod_k (k := 1) (l := l) (n := trn s.1 l) (by decide) (by omega)
  exact AI_snd hA ⟨by rw [c2]; omega, by rw [c3]; omega, by rw [c4, c5]; exact trn_le _ _, fun z => by rw [c1] at z; cases z⟩
theorem AI_dlv {w N : Nat} {s : Sp} (hA : AI w N s) {j : Nat} (hj : j < s.2.length) : AI w N (dlv s j) := by
  obtain ⟨c1, c2, c3, c4⟩ := AI_pk hA hj
  obtain ⟨e1, e2, e3⟩ := lkc_lt c1 c2
  unfold dlv
  split
  · split
    next q => exact AI_cf (AI_rm hA j) e1 (Nat.le_of_lt q) c3
    next q => exact AI_rm hA j
  · next h2 =>
    split
    · exact AI_rm hA j
    · next h7 =>
      have h70 : s.1 7 (s.2.getD j 0 / 8 % 4) 0 = 0 := by have := (hA.2.2.2.1 _ c2).1; omega
      split
      · exact AI_ack (s := (ua s.1 9 3 0 (s.1 9 3 0 + 1), s.2.eraseIdx j)) (AI_ct (AI_rm hA j) 3 _) e1
      · exact AI_ack (s := (ua s.1 5 (lkc (s.2.getD j 0)) (s.2.getD j 0 / 32) 1, s.2.eraseIdx j)) (AI_tk (AI_rm hA j) e1 (c4 (by omega)) (by rw [e2]; exact h70)) e1
theorem dlv_12 (s : Sp) (j : Nat) : (dlv s j).1 12 = s.1 12 := by
  unfold dlv
  split
  · split
    · show ua s.1 3 (lkc (s.2.getD j 0)) 0 (s.2.getD j 0 / 32) 12 = s.1 12
      exact ua_t (by decide)
    · rfl
  · split
    · rfl
    · split
      · rw [snd_t (by decide)]
        show ua s.1 9 3 0 (s.1 9 3 0 + 1) 12 = s.1 12
        exact ua_t (by decide)
      · rw [snd_t (by decide)]
        show ua s.1 5 (lkc (s.2.getD j 0)) (s.2.getD j 0 / 32) 1 12 = s.1 12
        exact ua_t (by decide)
theorem AI_rsd {w N : Nat} {s : Sp} {l : Nat} (hA : AI w N s) (hl : l < 3 * w) (hd : s.1 3 l 0 < s.1 1 l 0) : AI w N (rsd s l) := by
  have h1 := hA.1
  obtain ⟨c1, c2, c3, c4, c5⟩ := cod_k (k := 0) (l := l) (n := s.1 3 l 0) (by decide) (by omega)
  have e1 : ua s.1 6 l (s.1 3 l 0 % 32) (s.1 12 0 0) 1 = s.1 1 := ua_t (by decide)
  refine AI_snd (AI_sent hA (Nat.le_refl _)) ⟨by rw [c2]; omega, by rw [c3]; omega, ?_, fun _ => ?_⟩
  · rw [c4, c5]; show _ ≤ ua s.1 6 l (s.1 3 l 0 % 32) (s.1 12 0 0) 1 l 0; rw [e1]; omega
  · rw [c4, c5]; show _ < ua s.1 6 l (s.1 3 l 0 % 32) (s.1 12 0 0) 1 l 0; rw [e1]; exact hd
theorem rsd_12 (s : Sp) (l : Nat) : (rsd s l).1 12 = s.1 12 := by
  unfold rsd
  rw [snd_t (by decide)]
  show ua s.1 6 l (s.1 3 l 0 % 32) (s.1 12 0 0) 12 = s.1 12
  exact ua_t (by decide)
theorem AI_tkl {w N : Nat} {s : Sp} (hA : AI w N s) : ∀ l, l ≤ 3 * w → AI w N (tkl s l).1 ∧ (tkl s l).1.1 12 = s.1 12
  | 0, _ => ⟨hA, rfl⟩
  | l + 1, h => by
    obtain ⟨i1, i2⟩ := AI_tkl hA l (by omega)
    unfold tkl
    split
    next q => exact ⟨AI_rsd i1 (by omega) q.1, by rw [rsd_12]; exact i2⟩
    next q => exact ⟨i1, i2⟩
theorem AI_tck {w N : Nat} {s : Sp} (hA : AI w N s) (hT : s.1 12 0 0 + 1 ≤ 20 * N) : AI w N (tck w s) ∧ (tck w s).1 12 0 0 = s.1 12 0 0 + 1 := by
  obtain ⟨i1, i2⟩ := AI_tkl (AI_tm hA hT) (3 * w) (Nat.le_refl _)
  refine ⟨AI_ct i1 2 _, ?_⟩
  show ua (tkl (ua s.1 12 0 0 (s.1 12 0 0 + 1), s.2) (3 * w)).1.1 9 2 0 ((tkl (ua s.1 12 0 0 (s.1 12 0 0 + 1), s.2) (3 * w)).1.1 9 2 0 + tckN w s) 12 0 0 = _
  rw [ua_t (by decide), i2]
  show ua s.1 12 0 0 (s.1 12 0 0 + 1) 12 0 0 = _
  exact ua_at _ _ _ _ _
theorem AI_rnn {w N : Nat} {s : Sp} (hA : AI w N s) : ∀ i, s.1 12 0 0 + i ≤ 20 * N → AI w N (rnn w s i).1 ∧ (rnn w s i).1.1 12 0 0 ≤ s.1 12 0 0 + i
  | 0, _ => ⟨hA, Nat.le_refl _⟩
  | i + 1, h => by
    obtain ⟨i1, i2⟩ := AI_rnn hA i (by omega)
    unfold rnn
    split
    next q => exact ⟨AI_dlv i1 q, by rw [dlv_12]; omega⟩
    next q =>
      obtain ⟨j1, j2⟩ := AI_tck i1 (by omega)
      exact ⟨j1, by show (tck w (rnn w s i).1).1 12 0 0 ≤ _; rw [j2]; omega⟩
/-! the calls' answers and states, for any ints -/
abbrev bad (n : Nat) (i : Int32) : Prop := i < 0 ∨ nI n ≤ i
theorem ok_nI {j n : Nat} (h : j < n) (hn : n < 2 ^ 31) : ¬ bad n (nI j) := fun q => by
  rcases q with q | q
  · exact nI_pos (by omega) q
  · exact nI_ge h hn q
theorem bad_or (n : Nat) (hn : n < 2 ^ 31) (i : Int32) : bad n i ∨ ∃ j, j < n ∧ i = nI j := by
  rcases pk_ix i hn with h | h | h
  · exact Or.inl (Or.inl h)
  · exact Or.inl (Or.inr h)
  · exact Or.inr h
def keq (s : Sp) (l : Nat) : Nat := s.1 1 l 0 - s.1 2 l 0
abbrev wtd (w sl : Nat) (a : Ab) (v : Nat) : Prop := sl < a 0 v 0 - minF (fun v => a 0 v 0) (a 0 v 0) w
def addR (w sl : Nat) (s : Sp) (i k q : Int32) : Sp × Int32 :=
  if bad w i ∨ bad 6 k ∨ q < -99 ∨ nI 99 < q ∨ wtd w sl s.1 i.toNatClampNeg ∨ 20 ≤ keq s (3 * i.toNatClampNeg + k.toNatClampNeg % 3) then (s, nI 0)
  else (mkm s (3 * i.toNatClampNeg + k.toNatClampNeg % 3) (1000 * k.toNatClampNeg + (q + nI 100).toNatClampNeg), nI 1)
def mk3 (s : Sp) (v : Nat) : Nat → Sp
  | 0 => s
  | h + 1 => mkm (mk3 s v h) (3 * v + h) END
def advR (w sl : Nat) (s : Sp) (i : Int32) : Sp × Int32 :=
  if bad w i ∨ wtd w sl s.1 i.toNatClampNeg ∨ ¬ (keq s (3 * i.toNatClampNeg + 0) < 24 ∧ keq s (3 * i.toNatClampNeg + 1) < 24 ∧ keq s (3 * i.toNatClampNeg + 2) < 24) then (s, nI 0)
  else ((ua (mk3 s i.toNatClampNeg 3).1 0 i.toNatClampNeg 0 ((mk3 s i.toNatClampNeg 3).1 0 i.toNatClampNeg 0 + 1), (mk3 s i.toNatClampNeg 3).2), nI 1)
def rdyB (w sl : Nat) (s : Sp) (i k : Int32) : Nat :=
  if bad w i ∨ bad 6 k ∨ s.1 7 (k.toNatClampNeg % 3) 0 = 1 ∨ don w s.1 (k.toNatClampNeg % 3) + sl < s.1 0 i.toNatClampNeg 0 then 0 else 1
def rdyR (w sl : Nat) (s : Sp) (i k : Int32) : Sp × Int32 := (s, nI (rdyB w sl s i k))
def pulR (w sl ru : Nat) (s : Sp) (i k : Int32) : Sp × Int32 := (s, if rdyB w sl s i k = 1 then (wko ru w s.1 k.toNatClampNeg (don w s.1 (k.toNatClampNeg % 3))).1 else nI 0)
def clkR (w : Nat) (s : Sp) (i : Int32) : Sp × Int32 := (s, if bad w i then -1 else nI (s.1 0 i.toNatClampNeg 0))
def drpR (s : Sp) (i : Int32) : Sp × Int32 := if bad s.2.length i then (s, nI 0) else ((s.1, s.2.eraseIdx i.toNatClampNeg), nI 1)
def cpyR (s : Sp) (i : Int32) : Sp × Int32 := if bad s.2.length i ∨ 24 ≤ s.2.length then (s, nI 0) else (snd s (s.2.getD i.toNatClampNeg 0), nI 1)
def tckR (w : Nat) (s : Sp) : Sp × Int32 := (tck w s, nI (tckN w s))
def runR (w : Nat) (s : Sp) (n : Int32) : Sp × Int32 := if n < nI 1 ∨ nI 20 < n then (s, -1) else ((rnn w s n.toNatClampNeg).1, nI (rnn w s n.toNatClampNeg).2)
def kllR (w : Nat) (s : Sp) (i : Int32) : Sp × Int32 := if bad 3 i ∨ s.1 7 i.toNatClampNeg 0 = 1 then (s, nI 0) else (kll w s i.toNatClampNeg, nI 1)
def rcvR (w : Nat) (s : Sp) (i : Int32) : Sp × Int32 := if bad 3 i ∨ s.1 7 i.toNatClampNeg 0 = 0 then (s, nI 0) else (rcv w s i.toNatClampNeg, nI 1)
def ckpR (w : Nat) (s : Sp) (i : Int32) : Sp × Int32 := if bad 3 i ∨ s.1 7 i.toNatClampNeg 0 = 1 then (s, -1) else (ckp w s i.toNatClampNeg, nI (ckpN s i.toNatClampNeg (don w s.1 i.toNatClampNeg) w))
def donR (w : Nat) (s : Sp) (i : Int32) : Sp × Int32 := (s, if bad 3 i ∨ s.1 7 i.toNatClampNeg 0 = 1 then -1 else nI (don w s.1 i.toNatClampNeg))
def erlR (w : Nat) (s : Sp) (i : Int32) : Sp × Int32 := (s, if bad 3 i ∨ s.1 7 i.toNatClampNeg 0 = 1 then -1 else nI (erlN s.1 i.toNatClampNeg w))
def kepR (w : Nat) (s : Sp) (i k : Int32) : Sp × Int32 := (s, if bad w i ∨ bad 3 k then -1 else nI (keq s (3 * i.toNatClampNeg + k.toNatClampNeg)))
def uncR (w : Nat) (s : Sp) (i k : Int32) : Sp × Int32 := (s, if bad w i ∨ bad 3 k then -1 else nI (s.1 1 (3 * i.toNatClampNeg + k.toNatClampNeg) 0 - s.1 3 (3 * i.toNatClampNeg + k.toNatClampNeg) 0))
def pksR (s : Sp) : Sp × Int32 := (s, nI s.2.length)
def pktR (s : Sp) (i : Int32) : Sp × Int32 := (s, if bad s.2.length i then -1 else nI (s.2.getD i.toNatClampNeg 0))
def cntR (s : Sp) (i : Int32) : Sp × Int32 := (s, if bad 6 i then -1 else nI (s.1 9 i.toNatClampNeg 0))
