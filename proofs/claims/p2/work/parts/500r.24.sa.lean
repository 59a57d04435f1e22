/-! Rows of texts as arguments. -/
def AS (r : Nat) : Prop := rkF r = 6 ∧ lnF r ≠ 0 ∧ lnF r < 2147483648
theorem as_n {r : Nat} {s : S1} {i : Int32} (h : AS r) : (lnI r).toNatClampNeg = lnS s r i := by
  unfold lnS
  rw [if_neg h.2.1]
  exact nI_clamp h.2.2
theorem as_m {r : Nat} {s : S1} {i : Int32} (h : AS r) : Int32.ofNat (lnS s r i) = lnI r := by
  unfold lnS lnI
  rw [if_neg h.2.1]
theorem ww_alenS {X : Cx} {q : PL} {s : S1} {y : MethodName} {cc : ByteArray} {nL : Nat} {ret : Option FieldType} {fr lo : Nat} {own : String} {pc : Nat} {ls : Array Slot} {rest : List Value} {i : Int32} (g : Gd X y cc nL ret fr lo own) {a : Nat} {n : Int32} (hp : prs s a i) (ha : rkF a = 6) (hn : Int32.ofNat (lnS s a i) = n) (hdg : decode cc pc = .ok (.arraylength, 1)) (kk : WW X q s (pc + 1) ls (.int n :: rest)) : WW X q s pc ls (.ref (q.1 a i) :: rest) := by
  intro H locs hW hS
  obtain ⟨⟨hx, hb⟩, -, hown, hts, hK, -⟩ := g
  obtain ⟨C, hC⟩ := (hK.2.1 a).2.2.2.2 (by omega) (by omega)
  have hcell := (hW.2.2.1 a i hp).1
  unfold cellAt at hcell
  rw [if_neg (by omega)] at hcell
  refine W.alen hx hb hcell (hC _ _) ?_ rfl rfl hdg (kk H locs hW hS)
  rw [arrV_size]
  exact hn
