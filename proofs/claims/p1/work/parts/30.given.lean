
/-! What the Statement gives of the start: the links of nests, the two statics, the String constants. -/
theorem xB_of {args : Array Value} {s : State} (h : ∀ w ∈ tables_1, w.before args s = true) : xB s := by
  intro w hw
  obtain ⟨h1, h2⟩ := List.mem_filter.mp hw
  have h3 := h w h1
  cases w with
  | methodLinkNest a b c d => exact va_Nw.of rfl h3
  | fieldLinkNest a b c d e f => exact va_Nw.of rfl h3
  | castable a b => exact va_Nw.of rfl h3
  | declares a => exact va_Nw.of rfl h3
  | arrayOver ty => exact h3
  | _ => cases h2
theorem xL_of {args : Array Value} {s : State} {C n d : String} {A : Nat → Prop} (hl : (Cond.laysStatic C n d).before args s = true) (hA : ∀ a : Nat, a < s.heap.size → ¬ A a) : xL C n d A s s.heap := by
  obtain ⟨c, k, i, f, a, cell, h1, h2, h3, h4, h5, h6, h7, h8, h9⟩ := Cond.laysStatic_spec hl
  exact ⟨c, k, i, f, a, cell, h1, h2, h3, h4, h5, h6, h7, h8, h9, hA a (Array.getElem?_eq_some_iff.mp h5).1⟩
def xGiven : List Cond := flatC (Jvm.Cond.and given_1 narrow_1)
set_option maxRecDepth 20000 in
theorem xg_u : Cond.isRef (.static xT xU xUd) ∈ xGiven := List.mem_of_getElem? (i := 4) (by decide +kernel)
set_option maxRecDepth 20000 in
theorem xg_n : Cond.isRef (.static xT xN xNd) ∈ xGiven := List.mem_of_getElem? (i := 5) (by decide +kernel)
set_option maxRecDepth 20000 in
theorem xg_c : Cond.not (.castable "java/lang/IllegalStateException" "java/lang/IllegalArgumentException") ∈ xGiven := List.mem_of_getElem? (i := 249) (by decide +kernel)
set_option maxRecDepth 20000 in
theorem xg_s : xKs.map (fun q => Cond.exactly (.string "LuaMachineModel" q.1) "java/lang/String") = [1007, 1016, 1028, 1036, 1045, 1054, 1070, 1086, 1096, 1106, 1116, 1128, 1136, 1146, 1153, 1161, 1169, 1176, 1186, 1196, 1205, 1215, 1226, 1234, 1245, 1256, 1270, 1280, 1289, 1298, 1307, 1316, 1326, 1336, 1345, 1355, 1364, 1373, 1382, 1392, 1404, 1413, 1421, 1429, 1437, 1451, 1466, 1474, 1485, 1495, 1505, 1514, 1526, 1536, 1549, 1559].filterMap (fun i => xGiven[i]?) := by decide +kernel
set_option maxRecDepth 20000 in
theorem xg_r : xKs.map (fun q => Cond.stringRef "LuaMachineModel" q.1 q.2) = [2061, 2062, 2063, 2064, 2065, 2066, 2067, 2068, 2069, 2070, 2071, 2072, 2073, 2074, 2075, 2076, 2077, 2078, 2079, 2080, 2081, 2082, 2083, 2084, 2085, 2086, 2087, 2088, 2089, 2090, 2091, 2092, 2093, 2094, 2095, 2096, 2097, 2098, 2099, 2100, 2101, 2102, 2103, 2104, 2105, 2106, 2107, 2108, 2109, 2110, 2111, 2112, 2113, 2114, 2115, 2116].filterMap (fun i => tables_1[i]?) := by decide +kernel
theorem xt_u : Cond.laysStatic xT xU xUd ∈ tables_1 := List.mem_of_getElem? (i := 512) (by decide +kernel)
theorem xt_n : Cond.laysStatic xT xN xNd ∈ tables_1 := List.mem_of_getElem? (i := 514) (by decide +kernel)
theorem xt_i : Cond.initialized xT ∈ tables_1 := List.mem_of_getElem? (i := 12) (by decide +kernel)
theorem xZ_of {args : Array Value} {s : State} {A : Nat → Prop} (h : ∀ w ∈ tables_1, w.before args s = true) (hg : ∀ w ∈ xGiven, w.before args s = true) (hA : ∀ a : Nat, a < s.heap.size → ¬ A a) : xZ A s s.heap :=
  ⟨⟨va_Zqof (h _ xt_u) (h _ xt_i) (hg _ xg_u) hA, xL_of (h _ xt_u) hA⟩, ⟨va_Zqof (h _ xt_n) (h _ xt_i) (hg _ xg_n) hA, xL_of (h _ xt_n) hA⟩⟩
theorem xK_of {args : Array Value} {s : State} {A : Nat → Prop} (h : ∀ w ∈ tables_1, w.before args s = true) (hg : ∀ w ∈ xGiven, w.before args s = true) (hA : ∀ a : Nat, a < s.heap.size → ¬ A a) : ∃ ad : Nat → Nat, xK ad A s s.heap := by
  refine ⟨fun k => match (Term.string "LuaMachineModel" k).eval #[] s none [] s with | some (.ref a) => a | _ => 0, fun q hq => ?_⟩
  have h1 : (Cond.stringRef "LuaMachineModel" q.1 q.2).before args s = true := by
    have hm : Cond.stringRef "LuaMachineModel" q.1 q.2 ∈ xKs.map (fun q => Cond.stringRef "LuaMachineModel" q.1 q.2) := List.mem_map.mpr ⟨q, hq, rfl⟩
    rw [xg_r] at hm
    obtain ⟨i, -, hi⟩ := List.mem_filterMap.mp hm
    exact h _ (List.mem_of_getElem? hi)
  have h2 : (Cond.exactly (.string "LuaMachineModel" q.1) "java/lang/String").before args s = true := by
    have hm : Cond.exactly (.string "LuaMachineModel" q.1) "java/lang/String" ∈ xKs.map (fun q => Cond.exactly (.string "LuaMachineModel" q.1) "java/lang/String") := List.mem_map.mpr ⟨q, hq, rfl⟩
    rw [xg_s] at hm
    obtain ⟨i, -, hi⟩ := List.mem_filterMap.mp hm
    exact hg _ (List.mem_of_getElem? hi)
  have hc : ∃ cur, s.vm.findClass "LuaMachineModel" = some cur := by
    have h9 := h1
    simp only [Cond.before, Cond.holds, Cond.value] at h9
    cases hc : s.vm.findClass "LuaMachineModel" with
    | none => simp [hc] at h9
    | some cur => exact ⟨cur, rfl⟩
  obtain ⟨cur, hc⟩ := hc
  obtain ⟨k, cf, i, a, -, -, -, -, -, hev⟩ := Cond.stringRef_spec hc h1
  have hev0 : (Term.string "LuaMachineModel" q.1).eval #[] s none [] s = some (.ref a) := hev
  have he : (match (Term.string "LuaMachineModel" q.1).eval #[] s none [] s with | some (.ref a) => a | _ => 0) = a := by rw [hev0]
  show vk_R "LuaMachineModel" q.1 q.2 (match (Term.string "LuaMachineModel" q.1).eval #[] s none [] s with | some (.ref a) => a | _ => 0) s ∧ va_O "java/lang/String" (match (Term.string "LuaMachineModel" q.1).eval #[] s none [] s with | some (.ref a) => a | _ => 0) A s s.heap
  rw [he]
  exact ⟨vk_R.of h1 hev, va_Oof h2 hev hA⟩

