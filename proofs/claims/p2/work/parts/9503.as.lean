/-! Elements of rows of objects; numbers of a thread's things. -/
theorem et {f v : Nat} {t : Int32} (h : tnF f) (hv : eoF f = v) (h0 : v ≠ 0) : eo f t = v + t.toNatClampNeg * 45 := by
  subst hv
  exact eo_T h h0
section NA
variable {X : Cx} {q : PL} {n : Nat} {w0 : Cond} {cc : ByteArray} {nL : Nat} {fr0 lo0 : Nat} {own : String} {pc : Nat} {ls : Array Slot} {rest : List Value} {r : Nat}
theorem nn_aast (g : Gn X w0 cc nL fr0 lo0 own) {a v j f : Nat} {ji fi : Int32} (p : pNn n r 0) (ha : q.1 r 0 = a) (hk : rkF r = 5 ∨ rkF r = 6) (hany : ∀ (H : Heap) (locs : List Loc), Wnn (xP X) q n H → va_S (fun a => (xP X).1 ≤ a) (xs X).heap H locs → va_Any (ecF r) (xs X) H v) (hj : ji.toNatClampNeg = j) (h0 : 0 ≤ ji) (hjl : j < lnS S0 r 0)
    (hf : (rkF r = 6 ∧ f = 100000 + 1000 * r + j ∧ fi = 0 ∧ Value.ref v = .ref ((xP X).2.2.1 (1000 + (sbF r + j))) ∧ j < lnF r ∧ r < 100) ∨ (rkF r = 5 ∧ f = 200000 ∧ fi = Int32.ofNat j ∧ Value.ref v = .ref (q.1 28 (Int32.ofNat j)) ∧ j < 33)) (hn : eo f fi = n) (hdg : decode cc pc = .ok (.aastore, 1))
    (kk : WN X q (n + 1) (pc + 1) ls rest) : WN X q n pc ls (.ref v :: .int ji :: .ref a :: rest) := by
  intro H locs hW hS
  subst ha
  obtain ⟨⟨hx, hb⟩, hml, hown, hts, hK, -⟩ := g
  obtain ⟨d1, d2⟩ := hW.2.2.1 r 0 p
  unfold cNn at d1
  rw [if_neg (by omega)] at d1
  have hat : atF r = .object (ecF r) := by
    unfold atF
    rcases hk with h | h <;> rw [h] <;> rfl
  have hRA := (hK.2.2.2.2 r (by omega) (by omega)).2
  rw [hat] at hRA
  obtain ⟨kA, comp, k1, k2, k3, -⟩ := hRA
  obtain ⟨cellV, g1, g3, ⟨kC, hkC⟩, hasg⟩ := hany H locs hW hS
  obtain ⟨kE, hkE, -⟩ := Vm.findClass_spec k3
  refine W.aast hx hb d1 (fun q h => by cases h) (fun h => by cases h) k1 k2 rfl hkE ⟨Int32.not_lt.mpr h0, by rw [arrV_size, hj]; exact hjl⟩ g1 (fun q h => by rw [h] at g3; cases g3) hkC (hasg _ k3) rfl rfl hdg fun H1 e z oq => ?_
  rw [hj] at e
  exact kk H1 _ (hW.elt p hf hn e z oq) (hS.put z oq d2)
theorem any_S (g : Gn X w0 cc nL fr0 lo0 own) {t : Nat} (ht : t < nSt) (H : Heap) (locs : List Loc) (hS : va_S (fun a => (xP X).1 ≤ a) (xs X).heap H locs) : va_Any "java/lang/String" (xs X) H (aK (xP X) t) := by
  obtain ⟨cell, h1, h2, h3, -⟩ := va_O.kept (g.2.2.2.2.1.2.2.2.1.2.2 t ht).2.1 hS.2.1
  obtain ⟨kC, hkC, -⟩ := Vm.findClass_spec h3
  exact ⟨cell, h1, h2, ⟨kC, hkC⟩, fun comp h => by cases Option.some.inj (h.symm.trans h3); exact va_asg _ _⟩
theorem any_T (g : Gn X w0 cc nL fr0 lo0 own) {i : Int32} (p : pNn n 28 i) (H : Heap) (locs : List Loc) (hW : Wnn (xP X) q n H) : va_Any R_Th (xs X) H (q.1 28 i) := by
  have d1 := (hW.2.2.1 28 i p).1
  unfold cNn at d1
  rw [if_pos (by rfl)] at d1
  obtain ⟨cell, q1, q2, q3, q4⟩ := d1
  have hKn := g.2.2.2.2.1.1.1 (ciF 28) _ cl_Th.2.1
  obtain ⟨h3, kC, hkC, -⟩ := hKn.2
  exact ⟨cell, q1, by rw [q3]; rfl, ⟨kC, by rw [q2]; exact hkC⟩, fun comp h => by cases Option.some.inj (h.symm.trans h3); rw [q2]; exact va_asg _ _⟩
end NA
