/-! What both sides do, as pure functions: a the state's numbers by (tag, i, j), the second part the packets on their way as promise 20's codes.
tags: 0 clock of w; 1 made, 2 start, 3 confirmed of l; 4 message n of l; 5 taken n of l; 6 sending of l by place of the ring; 7 down, 8 checked of h; 9 counts; 12 time -/
abbrev Ab : Type := Nat → Nat → Nat → Nat
abbrev Sp : Type := Ab × List Nat
def ua (a : Ab) (t i j v : Nat) : Ab := fun t' i' j' => if t' = t ∧ i' = i ∧ j' = j then v else a t' i' j'
def END : Nat := 1000000
def cod (k l n : Nat) : Nat := k + 2 * (l / 3) + 8 * (l % 3) + 32 * n
/-- the first place below m that f doesn't hold 1 at, or m -/
def tnF (f : Nat → Nat) : Nat → Nat
  | 0 => 0
  | m + 1 => if tnF f m = m ∧ f m = 1 then m + 1 else tnF f m
/-- ends among the first n messages -/
def en (f : Nat → Nat) : Nat → Nat
  | 0 => 0
  | n + 1 => en f n + (if f n = END then 1 else 0)
/-- the least n ≤ m with c ends before it, or m -/
def bnF (f : Nat → Nat) (c : Nat) : Nat → Nat
  | 0 => 0
  | m + 1 => if bnF f c m = m ∧ en f m < c then m + 1 else bnF f c m
def minF (F : Nat → Nat) (z : Nat) : Nat → Nat
  | 0 => z
  | w + 1 => min (minF F z w) (F w)
def nar (x : Int32) : Int32 := if x < -99 then -99 else if nI 99 < x then nI 99 else x
def conF (f : Nat → Nat) (k : Nat) : Nat → Nat → Int32 → Int32
  | _, 0, s => s
  | n, i + 1, s => if f n = END then s else conF f k (n + 1) i (if f n / 1000 = k then nar (s + nI (f n % 1000) - nI 100) else s)
def gF (G : Nat → Int32) : Nat → Int32
  | 0 => nI 0
  | w + 1 => nar (gF G w + G w)
/-- the greatest number whose square is at most n -/
def isq : Nat → Nat
  | 0 => 0
  | n + 1 => if (isq n + 1) * (isq n + 1) ≤ n + 1 then isq n + 1 else isq n
def stepR (ru : Nat) (g : Int32) (q : Int32 × Int32) : Int32 × Int32 :=
  if ru = 0 then (q.1 - g, q.2) else if ru = 1 then (q.1 - (q.2 - q.2 / nI 4 + g) / nI 2, q.2 - q.2 / nI 4 + g)
  else (q.1 - nI 64 * g / (nI 1 + nI (isq (q.2 + g * g).toNatClampNeg)), q.2 + g * g)
def wo (ru : Nat) (G : Nat → Int32) : Nat → Int32 × Int32
  | 0 => (nI 0, nI 0)
  | c + 1 => stepR ru (G c) (wo ru G c)
def trn (a : Ab) (l : Nat) : Nat := tnF (a 5 l) (a 1 l 0)
def bnd (a : Ab) (l c : Nat) : Nat := bnF (a 4 l) c (a 1 l 0)
def don (w : Nat) (a : Ab) (h : Nat) : Nat := minF (fun v => en (a 4 (3 * v + h)) (trn a (3 * v + h))) 1000 w
def con (a : Ab) (k c v : Nat) : Int32 := conF (a 4 (3 * v + k % 3)) k (bnd a (3 * v + k % 3) c) (a 1 (3 * v + k % 3) 0 - bnd a (3 * v + k % 3) c) (nI 0)
def gsm (w : Nat) (a : Ab) (k c : Nat) : Int32 := gF (con a k c) w
def wko (ru w : Nat) (a : Ab) (k c : Nat) : Int32 × Int32 := wo ru (gsm w a k) c
def lst (w : Nat) (a : Ab) (z : Nat) : Nat := minF (fun v => a 0 v 0) z w
def wts (w sl : Nat) (a : Ab) (v : Nat) : Prop := sl < a 0 v 0 - lst w a (a 0 v 0)
/-! the calls -/
def snd (s : Sp) (c : Nat) : Sp := if s.2.length < 24 then (ua s.1 9 0 0 (s.1 9 0 0 + 1), s.2 ++ [c]) else (ua (ua s.1 9 0 0 (s.1 9 0 0 + 1)) 9 1 0 (s.1 9 1 0 + 1), s.2)
def mkm (s : Sp) (l m : Nat) : Sp := snd (ua (ua (ua s.1 4 l (s.1 1 l 0) m) 6 l (s.1 1 l 0 % 32) (s.1 12 0 0)) 1 l 0 (s.1 1 l 0 + 1), s.2) (cod 0 l (s.1 1 l 0))
def rsd (s : Sp) (l : Nat) : Sp := snd (ua s.1 6 l (s.1 3 l 0 % 32) (s.1 12 0 0), s.2) (cod 0 l (s.1 3 l 0))
abbrev due (a : Ab) (l : Nat) : Prop := a 3 l 0 < a 1 l 0 ∧ a 6 l (a 3 l 0 % 32) + 3 ≤ a 12 0 0
def tkl (s : Sp) : Nat → Sp × Nat
  | 0 => (s, 0)
  | l + 1 => if due (tkl s l).1.1 l then (rsd (tkl s l).1 l, (tkl s l).2 + 1) else tkl s l
def tckN (w : Nat) (s : Sp) : Nat := (tkl (ua s.1 12 0 0 (s.1 12 0 0 + 1), s.2) (3 * w)).2
def tck (w : Nat) (s : Sp) : Sp := (ua (tkl (ua s.1 12 0 0 (s.1 12 0 0 + 1), s.2) (3 * w)).1.1 9 2 0 ((tkl (ua s.1 12 0 0 (s.1 12 0 0 + 1), s.2) (3 * w)).1.1 9 2 0 + tckN w s), (tkl (ua s.1 12 0 0 (s.1 12 0 0 + 1), s.2) (3 * w)).1.2)
def lkc (c : Nat) : Nat := 3 * (c / 2 % 4) + c / 8 % 4
def dlvN (s : Sp) (j : Nat) : Nat :=
  if s.2.getD j 0 % 2 = 1 then (if s.1 3 (lkc (s.2.getD j 0)) 0 < s.2.getD j 0 / 32 then 4 else 5)
  else if s.1 7 (s.2.getD j 0 / 8 % 4) 0 = 1 then 3 else if s.1 5 (lkc (s.2.getD j 0)) (s.2.getD j 0 / 32) = 1 then 2 else 1
def dlv (s : Sp) (j : Nat) : Sp :=
  if s.2.getD j 0 % 2 = 1 then (if s.1 3 (lkc (s.2.getD j 0)) 0 < s.2.getD j 0 / 32 then (ua s.1 3 (lkc (s.2.getD j 0)) 0 (s.2.getD j 0 / 32), s.2.eraseIdx j) else (s.1, s.2.eraseIdx j))
  else if s.1 7 (s.2.getD j 0 / 8 % 4) 0 = 1 then (s.1, s.2.eraseIdx j)
  else if s.1 5 (lkc (s.2.getD j 0)) (s.2.getD j 0 / 32) = 1 then snd (ua s.1 9 3 0 (s.1 9 3 0 + 1), s.2.eraseIdx j) (cod 1 (lkc (s.2.getD j 0)) (trn s.1 (lkc (s.2.getD j 0))))
  else snd (ua s.1 5 (lkc (s.2.getD j 0)) (s.2.getD j 0 / 32) 1, s.2.eraseIdx j) (cod 1 (lkc (s.2.getD j 0)) (trn (ua s.1 5 (lkc (s.2.getD j 0)) (s.2.getD j 0 / 32) 1) (lkc (s.2.getD j 0))))
def rnn (w : Nat) (s : Sp) : Nat → Sp × Nat
  | 0 => (s, 0)
  | i + 1 => if 0 < (rnn w s i).1.2.length then (dlv (rnn w s i).1 0, (rnn w s i).2 + 1) else (tck w (rnn w s i).1, (rnn w s i).2)
def tkB (w : Nat) (a : Ab) (h : Nat) (b : Nat → Nat) : Ab := fun t i j => if t = 5 ∧ i % 3 = h ∧ i < 3 * w then (if j < b i then 1 else 0) else a t i j
def kll (w : Nat) (s : Sp) (h : Nat) : Sp := (tkB w (ua s.1 7 h 0 1) h (fun _ => 0), s.2.filter (fun c => c / 8 % 4 != h))
def rcv (w : Nat) (s : Sp) (h : Nat) : Sp := (fun t i j => if t = 3 ∧ i % 3 = h ∧ i < 3 * w ∧ j = 0 then bnd s.1 i (s.1 8 h 0) else tkB w (ua (ua s.1 7 h 0 0) 9 5 0 (s.1 9 5 0 + 1)) h (fun l => bnd s.1 l (s.1 8 h 0)) t i j, s.2)
def ckp (w : Nat) (s : Sp) (h : Nat) : Sp := (fun t i j => if t = 2 ∧ i % 3 = h ∧ i < 3 * w ∧ j = 0 then bnd s.1 i (don w s.1 h) else if t = 3 ∧ i % 3 = h ∧ i < 3 * w ∧ j = 0 then max (s.1 3 i 0) (bnd s.1 i (don w s.1 h)) else ua (ua s.1 8 h 0 (don w s.1 h)) 9 4 0 (s.1 9 4 0 + 1) t i j, s.2)
def totF (F : Nat → Nat) : Nat → Nat
  | 0 => 0
  | w + 1 => totF F w + F w
def ckpN (s : Sp) (h d w : Nat) : Nat := totF (fun v => bnd s.1 (3 * v + h) d - s.1 2 (3 * v + h) 0) w
def sumF (t : Nat → Nat) (b : Nat) : Nat → Nat
  | 0 => 0
  | i + 1 => sumF t b i + t (b + i)
def erl (a : Ab) (l : Nat) : Nat → Nat := sumF (a 5 l) (trn a l)
def erlN (a : Ab) (h w : Nat) : Nat := totF (fun v => erl a (3 * v + h) (a 1 (3 * v + h) 0 - trn a (3 * v + h))) w
