/-! The state of a machine: numbers of objects, long numbers, rows, long rows. Where each lies; the heap's size, its slots. -/
abbrev S1 : Type := (Nat → Int32 → Int32) × (Nat → Int32 → Int64) × (Nat → Int32 → Int32 → Int32) × (Nat → Int32 → Int32 → Int64)
abbrev PL : Type := (Nat → Int32 → Nat) × Nat × Nat
def gI (s : S1) (f : Nat) (i : Int32) : Int32 := s.1 f i
def gL (s : S1) (f : Nat) (i : Int32) : Int64 := s.2.1 f i
def gA (s : S1) (f : Nat) (i j : Int32) : Int32 := s.2.2.1 f i j
def gB (s : S1) (f : Nat) (i j : Int32) : Int64 := s.2.2.2 f i j
def sI (s : S1) (f : Nat) (i x : Int32) : S1 := (fun f' i' => if f' = f ∧ i' = i then x else s.1 f' i', s.2)
def sL (s : S1) (f : Nat) (i : Int32) (x : Int64) : S1 := (s.1, fun f' i' => if f' = f ∧ i' = i then x else s.2.1 f' i', s.2.2)
def sA (s : S1) (f : Nat) (i j x : Int32) : S1 := (s.1, s.2.1, fun f' i' j' => if f' = f ∧ i' = i ∧ j' = j then x else s.2.2.1 f' i' j', s.2.2.2)
def sB (s : S1) (f : Nat) (i j : Int32) (x : Int64) : S1 := (s.1, s.2.1, s.2.2.1, fun f' i' j' => if f' = f ∧ i' = i ∧ j' = j then x else s.2.2.2 f' i' j')
theorem gI_sI (s : S1) (f f' : Nat) (i i' x : Int32) : gI (sI s f i x) f' i' = if f' = f ∧ i' = i then x else gI s f' i' := rfl
theorem gL_sI (s : S1) (f f' : Nat) (i i' x : Int32) : gL (sI s f i x) f' i' = gL s f' i' := rfl
theorem gA_sI (s : S1) (f f' : Nat) (i i' j x : Int32) : gA (sI s f i x) f' i' j = gA s f' i' j := rfl
theorem gB_sI (s : S1) (f f' : Nat) (i i' j x : Int32) : gB (sI s f i x) f' i' j = gB s f' i' j := rfl
theorem gI_sL (s : S1) (f f' : Nat) (i i' : Int32) (x : Int64) : gI (sL s f i x) f' i' = gI s f' i' := rfl
theorem gL_sL (s : S1) (f f' : Nat) (i i' : Int32) (x : Int64) : gL (sL s f i x) f' i' = if f' = f ∧ i' = i then x else gL s f' i' := rfl
theorem gA_sL (s : S1) (f f' : Nat) (i i' j : Int32) (x : Int64) : gA (sL s f i x) f' i' j = gA s f' i' j := rfl
theorem gB_sL (s : S1) (f f' : Nat) (i i' j : Int32) (x : Int64) : gB (sL s f i x) f' i' j = gB s f' i' j := rfl
theorem gI_sA (s : S1) (f f' : Nat) (i i' j x : Int32) : gI (sA s f i j x) f' i' = gI s f' i' := rfl
theorem gL_sA (s : S1) (f f' : Nat) (i i' j x : Int32) : gL (sA s f i j x) f' i' = gL s f' i' := rfl
theorem gA_sA (s : S1) (f f' : Nat) (i i' j j' x : Int32) : gA (sA s f i j x) f' i' j' = if f' = f ∧ i' = i ∧ j' = j then x else gA s f' i' j' := rfl
theorem gB_sA (s : S1) (f f' : Nat) (i i' j j' x : Int32) : gB (sA s f i j x) f' i' j' = gB s f' i' j' := rfl
theorem gI_sB (s : S1) (f f' : Nat) (i i' j : Int32) (x : Int64) : gI (sB s f i j x) f' i' = gI s f' i' := rfl
theorem gL_sB (s : S1) (f f' : Nat) (i i' j : Int32) (x : Int64) : gL (sB s f i j x) f' i' = gL s f' i' := rfl
theorem gA_sB (s : S1) (f f' : Nat) (i i' j j' : Int32) (x : Int64) : gA (sB s f i j x) f' i' j' = gA s f' i' j' := rfl
theorem gB_sB (s : S1) (f f' : Nat) (i i' j j' : Int32) (x : Int64) : gB (sB s f i j x) f' i' j' = if f' = f ∧ i' = i ∧ j' = j then x else gB s f' i' j' := rfl
/-! The slots of a heap. -/
def tot (H : Heap) : Nat := (H.toList.map (fun c : Cell => c.slots.size)).sum
theorem tot_split (H : Heap) (n : Nat) : tot H = ((H.toList.take n).map (fun c : Cell => c.slots.size)).sum + ((H.toList.drop n).map (fun c : Cell => c.slots.size)).sum := by
  unfold tot
  rw [← List.sum_append, ← List.map_append, List.take_append_drop]
theorem tot_take {H0 H : Heap} (h : ∀ (a : Nat) (c : Cell), H0[a]? = some c → ∃ c', H[a]? = some c' ∧ c'.slots.size = c.slots.size) : (H.toList.take H0.size).map (fun c : Cell => c.slots.size) = H0.toList.map (fun c : Cell => c.slots.size) := by
  apply List.ext_getElem?
  intro a
  simp only [List.getElem?_map, List.getElem?_take, Array.getElem?_toList]
  by_cases ha : a < H0.size
  · rw [if_pos ha]
    obtain ⟨c', h1, h2⟩ := h a _ (Array.getElem?_eq_getElem ha)
    rw [h1, Array.getElem?_eq_getElem ha]
    simp [h2]
  · rw [if_neg ha, Array.getElem?_eq_none (Nat.not_lt.mp ha)]
theorem tot_same {H H1 : Heap} (z : H1.size = H.size) (h : ∀ (a : Nat) (c : Cell), H[a]? = some c → ∃ c', H1[a]? = some c' ∧ c'.slots.size = c.slots.size) : tot H1 = tot H := by
  have e := tot_take h
  have h1 : H1.toList.take H.size = H1.toList := List.take_of_length_le (by simp [z])
  rw [h1] at e
  unfold tot
  rw [e]
theorem tot_put {H H1 : Heap} {a : Nat} {c c' : Cell} (h : H[a]? = some c) (h1 : H1[a]? = some c') (hz : c'.slots.size = c.slots.size) (z : H1.size = H.size) (oq : ∀ q : Nat, q ≠ a → H1[q]? = H[q]?) : tot H1 = tot H := by
  refine tot_same z fun q d hq => ?_
  by_cases e : q = a
  · subst e
    rw [h] at hq
    cases hq
    exact ⟨c', h1, hz⟩
  · exact ⟨d, by rw [oq q e]; exact hq, rfl⟩
theorem tot_push (H : Heap) (c : Cell) : tot (H.push c) = tot H + c.slots.size := by
  unfold tot
  simp
section TG
variable {p : Program} {l : Launch} {e : Env} {R : Room} {s : State} {m : MethodId} {args : Array Value} {below : List Frame} {meth : Method} {c : Code} {H : Heap} {locs : List Loc} {cells slots : Nat} {Q : State → Prop}
/-- what was counted is what is there: the counts may be brought down to it -/
theorem w_tight {g : JFrame} {k n : Nat} (h1 : H.size ≤ s.heap.size + k) (h2 : tot H ≤ tot s.heap + n) (kk : W p l e R s m args below meth c H locs k n Q g) : W p l e R s m args below meth c H locs cells slots Q g := by
  intro T hT X
  refine kk T hT { X with same := ?_ }
  obtain ⟨a1, a2, a3, a4, a5, a6⟩ := X.same
  have hH : (T.setVm s.vm).heap = H := hT
  refine ⟨a1, a2, by rw [hH]; exact h1, a4, ?_, a6⟩
  rw [hH]
  have e1 := tot_split H s.heap.size
  have e2 : (H.toList.take s.heap.size).map (fun c : Cell => c.slots.size) = s.heap.toList.map (fun c : Cell => c.slots.size) := tot_take fun a c hc => by
    obtain ⟨c', q1, -, q3, -⟩ := a6 a c hc
    exact ⟨c', by rw [← hH]; exact q1, q3⟩
  rw [e2] at e1
  unfold tot at e1 h2
  omega
end TG
