/-! the pictures at the start -/
def sp0 : Sp := (fun _ _ _ => 0, [])
theorem don_0 {w h : Nat} (hw : 1 ≤ w) : don w sp0.1 h = 0 := by
  obtain ⟨v, rfl⟩ : ∃ v, w = v + 1 := ⟨w - 1, by omega⟩
  simp [don, minF, sp0, trn, tnF, en]
theorem cp_0 {w sl ru : Nat} (h1 : 1 ≤ w) : CP w sl ru sp0 (sig0 w sl ru) := by
  refine ⟨⟨rfl, rfl, rfl, rfl, rfl, rfl, fun v _ => rfl⟩, ⟨rfl, rfl, rfl, fun i c h => by simp [sp0] at h⟩, fun l hl => ⟨rfl, rfl, rfl, rfl, rfl, fun j _ => rfl, fun n q1 q2 => absurd q2 (by simp [sp0])⟩, fun h hh => ⟨rfl, rfl, rfl, fun p hp => ⟨rfl, rfl⟩⟩, fun h hh _ => ⟨⟨?_, fun p hp => ?_⟩, fun v hv => ⟨rfl, rfl, rfl, fun n q1 q2 => absurd q2 (by simp [sp0])⟩⟩⟩
  · rw [don_0 h1]; rfl
  · rw [don_0 h1]; exact ⟨rfl, rfl⟩
theorem mp_0 {w sl ru : Nat} : MP w sl ru sp0 (sig0 w sl ru) :=
  ⟨⟨rfl, rfl, rfl, rfl, rfl⟩, fun v _ => rfl, fun l _ => ⟨rfl, rfl, rfl⟩, fun l n _ _ => ⟨rfl, rfl⟩, fun l n _ _ => rfl, fun h _ => ⟨rfl, rfl⟩, fun c _ => rfl, fun i c h => by simp [sp0] at h⟩
theorem ai_0 {w : Nat} (h1 : 1 ≤ w) (h4 : w ≤ 4) : AI w 0 sp0 := by
  refine ⟨⟨h1, h4, by omega, by simp [sp0], by simp [sp0]⟩, fun v _ => by simp [sp0], fun l hl => ⟨by simp [sp0], by simp [sp0], by simp [sp0], by simp [sp0], fun j _ => by simp [sp0], fun n hn => absurd hn (by simp [sp0]), fun n => by simp [sp0], fun n _ => rfl, rfl, by simp [sp0]⟩, fun h hh => ⟨by simp [sp0], fun q => absurd q (by simp [sp0]), fun _ => by simp [sp0]⟩, fun c hc => absurd hc (by simp [sp0])⟩
