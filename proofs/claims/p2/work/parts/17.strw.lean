section XS
variable {p : Program} {l : Launch} {e : Env} {R : Room} {s : State} {m : MethodId} {args : Array Value} {below : List Frame} {meth : Method} {c : Code} {H : Heap} {locs : List Loc} {cells slots : Nat} {Q : State → Prop} {cc : ByteArray} {pc : Nat} {ls : Array Slot} {rest : List Value} {A : Nat → Prop}
theorem xldcw (hexec : p.tables.exec = Jvm.exec) (hb : c.code = cc) {own tx : String} {index q : Nat} (hown : s.vm.findClass own = some m.cls) (hZ : vk_R own index tx q s) (hdg : decode cc pc = .ok (.ldc_w index, 3))
    (k : W p l e R s m args below meth c H locs cells slots Q (F0 m (pc + 3) ls (.ref q :: rest))) : W p l e R s m args below meth c H locs cells slots Q (F0 m pc ls rest) := by
  intro T hT X
  obtain ⟨t, a1, b1⟩ := k T hT X
  refine ⟨t, ?_, b1⟩
  obtain ⟨kc, cf, i, a9, hk, hcf, hcp, -, hr, hev⟩ := Cond.stringRef_spec hown hZ.1
  cases Option.some.inj (hZ.2.symm.trans hev)
  obtain ⟨kd, hk9, he⟩ := X.warmed.alike.2.2 _ _ hk
  have hr9 : kd.resolved[index]? = some (some (.string q)) := by
    rcases X.warmed.entry hk hk9 index with h | ⟨h, -⟩
    · rw [h]; exact hr
    · rw [hr] at h; cases h
  have hdg9 : decode c.code pc = .ok (.ldc_w index, 3) := by rw [hb]; exact hdg
  jvm_step X.here [hexec, hdg9, ldc_w.wp_string (e := e) (s := T) (f := F0 m pc ls rest) X.here.top hk9 (by rw [he]; exact hcf) hcp hr9]
  exact a1
end XS
theorem ww_ldcwS {X : Cx} {q : PL} {s : S1} {y : MethodName} {cc : ByteArray} {nL : Nat} {ret : Option FieldType} {fr lo : Nat} {own : String} {pc : Nat} {ls : Array Slot} {rest : List Value} {index n : Nat} (g : Gd X y cc nL ret fr lo own) (hn : n < nSt) (ho : stO n = own) (hi : stI n = index) (hdg : decode cc pc = .ok (.ldc_w index, 3)) (kk : WW X q s (pc + 3) ls (.ref (aK (xP X) n) :: rest)) : WW X q s pc ls rest := fun H locs u1 u2 => xldcw g.1.1 g.1.2 g.2.2.1 (ho ▸ hi ▸ (g.2.2.2.2.1.2.2.2.1.2.2 n hn).1) hdg (kk H locs u1 u2)
