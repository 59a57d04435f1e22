/-! The class: perform. -/
theorem ok.zk {α : Type} {f : M α} {s : S1} {z : Nat} {b : Bool} {Q : α → S1 → Prop} (h : ok f s Q) (k : Zk z b f) : ok f s (fun a t => Q a t ∧ Zr z b s t) := by
  obtain ⟨a, t, e, q⟩ := ok_out h
  exact ok_in e ⟨q, k s a t e⟩
theorem outR.zk {z : Nat} {s t : S1} (h : outR s) (k : Zr z true s t) : outR t := by
  unfold outR
  rw [k.2.2.2.2 rfl]
  exact h
