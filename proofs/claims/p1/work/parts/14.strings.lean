def xKs : List (Nat × String) := [(279, "print"), (281, "tostring"), (283, "type"), (285, "error"), (287, "pcall"), (289, "setmetatable"), (291, "getmetatable"), (293, "rawget"), (295, "rawset"), (297, "rawlen"), (299, "rawequal"), (301, "next"), (303, "select"), (305, "sub"), (307, "byte"), (309, "char"), (311, "len"), (313, "create"), (315, "resume"), (317, "yield"), (319, "status"), (320, "running"), (322, "wrap"), (324, "collect"), (330, "__index"), (332, "__newindex"), (334, "__call"), (336, "__add"), (338, "__sub"), (340, "__mul"), (342, "__mod"), (344, "__idiv"), (346, "__band"), (348, "__bor"), (350, "__bxor"), (352, "__shl"), (354, "__shr"), (356, "__unm"), (358, "__bnot"), (360, "__concat"), (362, "__len"), (364, "__eq"), (366, "__lt"), (368, "__le"), (370, "__tostring"), (372, "__metatable"), (377, "nil"), (379, "boolean"), (381, "number"), (383, "string"), (385, "table"), (387, "function"), (389, "thread"), (394, "suspended"), (396, "normal"), (398, "dead")]
theorem xs_279 : ((279 : Nat), "print") ∈ xKs := by decide
theorem xs_281 : ((281 : Nat), "tostring") ∈ xKs := by decide
theorem xs_283 : ((283 : Nat), "type") ∈ xKs := by decide
theorem xs_285 : ((285 : Nat), "error") ∈ xKs := by decide
theorem xs_287 : ((287 : Nat), "pcall") ∈ xKs := by decide
theorem xs_289 : ((289 : Nat), "setmetatable") ∈ xKs := by decide
theorem xs_291 : ((291 : Nat), "getmetatable") ∈ xKs := by decide
theorem xs_293 : ((293 : Nat), "rawget") ∈ xKs := by decide
theorem xs_295 : ((295 : Nat), "rawset") ∈ xKs := by decide
theorem xs_297 : ((297 : Nat), "rawlen") ∈ xKs := by decide
theorem xs_299 : ((299 : Nat), "rawequal") ∈ xKs := by decide
theorem xs_301 : ((301 : Nat), "next") ∈ xKs := by decide
theorem xs_303 : ((303 : Nat), "select") ∈ xKs := by decide
theorem xs_305 : ((305 : Nat), "sub") ∈ xKs := by decide
theorem xs_307 : ((307 : Nat), "byte") ∈ xKs := by decide
theorem xs_309 : ((309 : Nat), "char") ∈ xKs := by decide
theorem xs_311 : ((311 : Nat), "len") ∈ xKs := by decide
theorem xs_313 : ((313 : Nat), "create") ∈ xKs := by decide
theorem xs_315 : ((315 : Nat), "resume") ∈ xKs := by decide
theorem xs_317 : ((317 : Nat), "yield") ∈ xKs := by decide
theorem xs_319 : ((319 : Nat), "status") ∈ xKs := by decide
theorem xs_320 : ((320 : Nat), "running") ∈ xKs := by decide
theorem xs_322 : ((322 : Nat), "wrap") ∈ xKs := by decide
theorem xs_324 : ((324 : Nat), "collect") ∈ xKs := by decide
theorem xs_330 : ((330 : Nat), "__index") ∈ xKs := by decide
theorem xs_332 : ((332 : Nat), "__newindex") ∈ xKs := by decide
theorem xs_334 : ((334 : Nat), "__call") ∈ xKs := by decide
theorem xs_336 : ((336 : Nat), "__add") ∈ xKs := by decide
theorem xs_338 : ((338 : Nat), "__sub") ∈ xKs := by decide
theorem xs_340 : ((340 : Nat), "__mul") ∈ xKs := by decide
theorem xs_342 : ((342 : Nat), "__mod") ∈ xKs := by decide
theorem xs_344 : ((344 : Nat), "__idiv") ∈ xKs := by decide
theorem xs_346 : ((346 : Nat), "__band") ∈ xKs := by decide
theorem xs_348 : ((348 : Nat), "__bor") ∈ xKs := by decide
theorem xs_350 : ((350 : Nat), "__bxor") ∈ xKs := by decide
theorem xs_352 : ((352 : Nat), "__shl") ∈ xKs := by decide
theorem xs_354 : ((354 : Nat), "__shr") ∈ xKs := by decide
theorem xs_356 : ((356 : Nat), "__unm") ∈ xKs := by decide
theorem xs_358 : ((358 : Nat), "__bnot") ∈ xKs := by decide
theorem xs_360 : ((360 : Nat), "__concat") ∈ xKs := by decide
theorem xs_362 : ((362 : Nat), "__len") ∈ xKs := by decide
theorem xs_364 : ((364 : Nat), "__eq") ∈ xKs := by decide
theorem xs_366 : ((366 : Nat), "__lt") ∈ xKs := by decide
theorem xs_368 : ((368 : Nat), "__le") ∈ xKs := by decide
theorem xs_370 : ((370 : Nat), "__tostring") ∈ xKs := by decide
theorem xs_372 : ((372 : Nat), "__metatable") ∈ xKs := by decide
theorem xs_377 : ((377 : Nat), "nil") ∈ xKs := by decide
theorem xs_379 : ((379 : Nat), "boolean") ∈ xKs := by decide
theorem xs_381 : ((381 : Nat), "number") ∈ xKs := by decide
theorem xs_383 : ((383 : Nat), "string") ∈ xKs := by decide
theorem xs_385 : ((385 : Nat), "table") ∈ xKs := by decide
theorem xs_387 : ((387 : Nat), "function") ∈ xKs := by decide
theorem xs_389 : ((389 : Nat), "thread") ∈ xKs := by decide
theorem xs_394 : ((394 : Nat), "suspended") ∈ xKs := by decide
theorem xs_396 : ((396 : Nat), "normal") ∈ xKs := by decide
theorem xs_398 : ((398 : Nat), "dead") ∈ xKs := by decide
/-! The model's String constants: each entry is resolved, to an object of String that nobody writes. -/
section XS
variable {p : Program} {l : Launch} {e : Env} {R : Room} {s : State} {m : MethodId} {args : Array Value} {below : List Frame} {meth : Method} {c : Code} {H : Heap} {locs : List Loc} {cells slots : Nat} {Q : State → Prop} {cc : ByteArray} {pc : Nat} {ls : Array Slot} {rest : List Value} {A : Nat → Prop}
theorem xldcw (hexec : p.tables.exec = Jvm.exec) (hb : c.code = cc) {own tx : String} {index q : Nat} (hown : s.vm.findClass own = some m.cls) (hZ : vk_R own index tx q s) (hdg : decode cc pc = .ok (.ldc_w index, 3))
    (k : W p l e R s m args below meth c H locs cells slots Q (F0 m (pc + 3) ls (.ref q :: rest))) : W p l e R s m args below meth c H locs cells slots Q (F0 m pc ls rest) := by
  intro T hT X
  obtain ⟨t, a1, b1⟩ := k T hT X
  refine ⟨t, ?_, b1⟩
  obtain ⟨kc, cf, i, a9, hk, hcf, hcp, -, hr, hev⟩ := Cond.stringRef_spec hown hZ.1
  cases Option.some.inj (hZ.2.symm.trans hev)
  obtain ⟨kd, hk9, he⟩ := X.warmed.alike.2.2 _ _ hk
  have hr9 : kd.resolved[index]? = some (some (.string q)) := by
    rcases X.warmed.entry hk hk9 index with h | ⟨h, -⟩
    · rw [h]; exact hr
    · rw [hr] at h; cases h
  have hdg9 : decode c.code pc = .ok (.ldc_w index, 3) := by rw [hb]; exact hdg
  jvm_step X.here [hexec, hdg9, ldc_w.wp_string (e := e) (s := T) (f := F0 m pc ls rest) X.here.top hk9 (by rw [he]; exact hcf) hcp hr9]
  exact a1
theorem xAny {E : String} {t : Nat} (h : va_O E t A s s.heap) (hS : va_S A s.heap H locs) : va_Any E s H t := by
  obtain ⟨cell, h1, h2, h3, -⟩ := va_O.kept h hS.2.1
  obtain ⟨kC, hkC, -⟩ := Vm.findClass_spec h3
  exact ⟨cell, h1, h2, ⟨kC, hkC⟩, fun comp h => by cases Option.some.inj (h.symm.trans h3); exact va_asg _ _⟩
end XS
def xK (ad : Nat → Nat) (A : Nat → Prop) (U : State) (H : Heap) : Prop := ∀ q ∈ xKs, vk_R "LuaMachineModel" q.1 q.2 (ad q.1) U ∧ va_O "java/lang/String" (ad q.1) A U H
theorem xK.moved {ad : Nat → Nat} {A : Nat → Prop} {u U : State} {H : Heap} (hW : u.WarmedH U.vm) (h : xK ad A u H) : xK ad A U H := fun q hq => ⟨vk_R.warm hW (h q hq).1, va_O.moved hW.alike (h q hq).2⟩
theorem xK.kept {ad : Nat → Nat} {A : Nat → Prop} {U : State} {H H1 : Heap} (h : xK ad A U H) (hq : ∀ a : Nat, a < H.size → ¬ A a → H1[a]? = H[a]?) : xK ad A U H1 := fun q hk => ⟨(h q hk).1, (h q hk).2.kept hq⟩
theorem xK.narrow {ad : Nat → Nat} {A B : Nat → Prop} {U : State} {H : Heap} (h : xK ad A U H) (hAB : ∀ q, B q → A q) : xK ad B U H := fun q hk => ⟨(h q hk).1, (h q hk).2.narrow hAB⟩
