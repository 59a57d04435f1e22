theorem xB_of {args : Array Value} {s : State} (h : ∀ w ∈ tables_1, w.before args s = true) : xB s := by
  intro w hw
  obtain ⟨h1, h2⟩ := List.mem_filter.mp hw
  have h3 := h w h1
  cases w with
  | methodLinkNest a b c d => exact va_Nw.of rfl h3
  | fieldLinkNest a b c d e f => exact va_Nw.of rfl h3
  | castable a b => exact va_Nw.of rfl h3
  | declares a => exact va_Nw.of rfl h3
  | arrayOver ty => exact h3
  | _ => cases h2
theorem xL_of {args : Array Value} {s : State} {C n d : String} {A : Nat → Prop} (hl : (Cond.laysStatic C n d).before args s = true) (hA : ∀ a : Nat, a < s.heap.size → ¬ A a) : xL C n d A s s.heap := by
  obtain ⟨c, k, i, f, a, cell, h1, h2, h3, h4, h5, h6, h7, h8, h9⟩ := Cond.laysStatic_spec hl
  exact ⟨c, k, i, f, a, cell, h1, h2, h3, h4, h5, h6, h7, h8, h9, hA a (Array.getElem?_eq_some_iff.mp h5).1⟩
def xGiven : List Cond := flatC (Jvm.Cond.and given_1 narrow_1)
set_option maxRecDepth 20000 in
theorem xg_u : Cond.isRef (.static xT xU xUd) ∈ xGiven := List.mem_of_getElem? (i := 4) (by decide +kernel)
set_option maxRecDepth 20000 in
theorem xg_n : Cond.isRef (.static xT xN xNd) ∈ xGiven := List.mem_of_getElem? (i := 5) (by decide +kernel)
set_option maxRecDepth 20000 in
theorem xg_c0 : Cond.not (.castable "java/lang/IllegalStateException" "java/lang/UnsupportedOperationException") ∈ xGiven := List.mem_of_getElem? (i := 270) (by decide +kernel)
set_option maxRecDepth 20000 in
theorem xg_c1 : Cond.not (.castable "java/lang/IllegalStateException" "java/lang/IllegalArgumentException") ∈ xGiven := List.mem_of_getElem? (i := 249) (by decide +kernel)
set_option maxRecDepth 20000 in
theorem xg_c2 : Cond.not (.castable "java/lang/IllegalArgumentException" "java/lang/IndexOutOfBoundsException") ∈ xGiven := List.mem_of_getElem? (i := 292) (by decide +kernel)
set_option maxRecDepth 20000 in
theorem xg_cs : Cond.eq (.static "java/lang/String" "COMPACT_STRINGS" "Z") (.int 1) ∈ xGiven := List.mem_of_getElem? (i := 6) (by decide +kernel)
set_option maxRecDepth 20000 in
theorem xg_sf : Cond.isRef (.static "jdk/internal/util/Preconditions" "SIOOBE_FORMATTER" "Ljava/util/function/BiFunction;") ∈ xGiven := List.mem_of_getElem? (i := 7) (by decide +kernel)
theorem xt_u : Cond.laysStatic xT xU xUd ∈ tables_1 := List.mem_of_getElem? (i := 512) (by decide +kernel)
theorem xt_n : Cond.laysStatic xT xN xNd ∈ tables_1 := List.mem_of_getElem? (i := 514) (by decide +kernel)
theorem xt_i : Cond.initialized xT ∈ tables_1 := List.mem_of_getElem? (i := 12) (by decide +kernel)
theorem xt_cs : Cond.laysStatic "java/lang/String" "COMPACT_STRINGS" "Z" ∈ tables_1 := List.mem_of_getElem? (i := 714) (by decide +kernel)
theorem xt_sf : Cond.laysStatic "jdk/internal/util/Preconditions" "SIOOBE_FORMATTER" "Ljava/util/function/BiFunction;" ∈ tables_1 := List.mem_of_getElem? (i := 722) (by decide +kernel)
theorem xt_si : Cond.initialized "java/lang/String" ∈ tables_1 := List.mem_of_getElem? (i := 18) (by decide +kernel)
theorem xt_pi : Cond.initialized "jdk/internal/util/Preconditions" ∈ tables_1 := List.mem_of_getElem? (i := 20) (by decide +kernel)
theorem xZ_of {args : Array Value} {s : State} {A : Nat → Prop} (h : ∀ w ∈ tables_1, w.before args s = true) (hg : ∀ w ∈ xGiven, w.before args s = true) (hA : ∀ a : Nat, a < s.heap.size → ¬ A a) : xZ A s s.heap :=
  ⟨⟨va_Zqof (h _ xt_u) (h _ xt_i) (hg _ xg_u) hA, xL_of (h _ xt_u) hA⟩, ⟨va_Zqof (h _ xt_n) (h _ xt_i) (hg _ xg_n) hA, xL_of (h _ xt_n) hA⟩⟩
theorem n3_of {args : Array Value} {s : State} (hg : ∀ w ∈ xGiven, w.before args s = true) : N3 s := ⟨va_Nc.of (hg _ xg_c0), va_Nc.of (hg _ xg_c1), va_Nc.of (hg _ xg_c2)⟩
theorem eq_ev {args : Array Value} {s : State} {t : Term} {v : Int32} (h : (Cond.eq t (.int v)).before args s = true) : t.eval args s none [] s = some (.int v) := by
  cases hv : t.eval args s none [] s with
  | none => simp [Cond.before, Cond.holds, Cond.value, hv] at h
  | some w => cases w <;> simp [Cond.before, Cond.holds, Cond.value, hv, Term.eval] at h <;> simp [h]
/-! The String constants. -/
abbrev sV (n : Nat) : Term := .field (.string (stO n) (stI n)) "java/lang/String" "value" "[B"
def sC (n : Nat) : List Cond := [.exactly (.string (stO n) (stI n)) "java/lang/String", .eq (.field (.string (stO n) (stI n)) "java/lang/String" "coder" "B") (.int 0), .arrayOf (sV n) .byte, .eq (.length (sV n)) (.int (Int32.ofNat (stL n)))] ++ (List.range (stL n)).map (fun j => .eq (.elem (sV n) (.int (Int32.ofNat j))) (.int ((stB n).getD j 0)))
def pSs : List Nat := [1007, 1016, 1028, 1036, 1045, 1054, 1070, 1086, 1096, 1106, 1116, 1128, 1136, 1146, 1153, 1161, 1169, 1176, 1186, 1196, 1205, 1215, 1226, 1234, 1245, 1256, 1270, 1280, 1289, 1298, 1307, 1316, 1326, 1336, 1345, 1355, 1364, 1373, 1382, 1392, 1404, 1413, 1421, 1429, 1437, 1451, 1466, 1474, 1485, 1495, 1505, 1514, 1526, 1536, 1215, 1549, 1559, 300, 350, 400, 522, 692, 851, 933, 940, 949, 957, 968, 981, 995, 1567, 1577, 1586, 1600, 1615, 1627]
set_option maxRecDepth 40000 in
theorem xg_s : (List.range 76).map sC = pSs.zipIdx.map (fun p => (xGiven.drop p.1).take (4 + stL p.2)) := by decide +kernel
set_option maxRecDepth 20000 in
theorem xg_r : (List.range 76).map (fun n => Cond.stringRef (stO n) (stI n) (stT n)) = [2061, 2062, 2063, 2064, 2065, 2066, 2067, 2068, 2069, 2070, 2071, 2072, 2073, 2074, 2075, 2076, 2077, 2078, 2079, 2080, 2081, 2082, 2083, 2084, 2085, 2086, 2087, 2088, 2089, 2090, 2091, 2092, 2093, 2094, 2095, 2096, 2097, 2098, 2099, 2100, 2101, 2102, 2103, 2104, 2105, 2106, 2107, 2108, 2109, 2110, 2111, 2112, 2113, 2114, 2082, 2115, 2116, 704, 748, 749, 1196, 1218, 1219, 1693, 1701, 1702, 1712, 1713, 1714, 1715, 2832, 2833, 2845, 2846, 2847, 2848].filterMap (fun i => tables_1[i]?) := by decide +kernel
theorem sC_in {n : Nat} (hn : n < nSt) {w : Cond} (hw : w ∈ sC n) : w ∈ xGiven := by
  have h1 : sC n ∈ (List.range 76).map sC := List.mem_map.mpr ⟨n, List.mem_range.mpr hn, rfl⟩
  rw [xg_s] at h1
  obtain ⟨p, -, hp⟩ := List.mem_map.mp h1
  rw [← hp] at hw
  exact List.mem_of_mem_drop (List.mem_of_mem_take hw)
theorem sR_in {n : Nat} (hn : n < nSt) : Cond.stringRef (stO n) (stI n) (stT n) ∈ tables_1 := by
  have h1 : Cond.stringRef (stO n) (stI n) (stT n) ∈ (List.range 76).map (fun n => Cond.stringRef (stO n) (stI n) (stT n)) := List.mem_map.mpr ⟨n, List.mem_range.mpr hn, rfl⟩
  rw [xg_r] at h1
  obtain ⟨i, -, hi⟩ := List.mem_filterMap.mp h1
  exact List.mem_of_getElem? hi
theorem stL_lt : ∀ n, n < nSt → stL n < 2 ^ 31 := by decide +kernel
def StA (n : Nat) (a v : Nat) (A : Nat → Prop) (s : State) : Prop := vk_R (stO n) (stI n) (stT n) a s ∧ va_O "java/lang/String" a A s s.heap ∧ va_OF "java/lang/String" "coder" "B" (.int 0) a A s s.heap ∧ va_OF "java/lang/String" "value" "[B" (.ref v) a A s s.heap ∧ va_T .byte v (stL n) (fun j => .int ((stB n).getD j 0)) A s s.heap
theorem st_of {args : Array Value} {s : State} {A : Nat → Prop} (h : ∀ w ∈ tables_1, w.before args s = true) (hg : ∀ w ∈ xGiven, w.before args s = true) (hA : ∀ a : Nat, a < s.heap.size → ¬ A a) {n : Nat} (hn : n < nSt) : ∃ a v : Nat, StA n a v A s := by
  have h1 := h _ (sR_in hn)
  have h2 := hg _ (sC_in hn (w := .exactly (.string (stO n) (stI n)) "java/lang/String") (by simp [sC]))
  have h3 := eq_ev (hg _ (sC_in hn (w := .eq (.field (.string (stO n) (stI n)) "java/lang/String" "coder" "B") (.int 0)) (by simp [sC])))
  have h4 := hg _ (sC_in hn (w := .arrayOf (sV n) .byte) (by simp [sC]))
  have h5 := eq_ev (hg _ (sC_in hn (w := .eq (.length (sV n)) (.int (Int32.ofNat (stL n)))) (by simp [sC])))
  have h6 : ∀ j : Nat, j < stL n → (Term.elem (sV n) (.int (Int32.ofNat j))).eval args s none [] s = some (.int ((stB n).getD j 0)) := fun j hj => eq_ev (hg _ (sC_in hn (by
    unfold sC
    exact List.mem_append_right _ (List.mem_map.mpr ⟨j, List.mem_range.mpr hj, rfl⟩))))
  have hc : ∃ cur, s.vm.findClass (stO n) = some cur := by
    have h9 := h1
    simp only [Cond.before, Cond.holds, Cond.value] at h9
    cases hc : s.vm.findClass (stO n) with
    | none => simp [hc] at h9
    | some cur => exact ⟨cur, rfl⟩
  obtain ⟨cur, hc⟩ := hc
  obtain ⟨k, cf, i, a, -, -, -, -, -, hev⟩ := Cond.stringRef_spec hc h1
  obtain ⟨v, hv, hT⟩ := va_Tof (f := fun j => .int ((stB n).getD j 0)) (stL_lt n hn) h4 h5 h6 hA
  exact ⟨a, v, vk_R.of h1 hev, va_Oof h2 hev hA, vk_OFof hev h3 hA, vk_OFof hev hv hA, hT⟩
/-! The classes of rows. -/
theorem ra_p {args : Array Value} {s : State} {ty : FieldType} (hp : ty = .int ∨ ty = .byte ∨ ty = .boolean ∨ ty = .long) (h : (Cond.arrayClass ty).before args s = true) : ∃ c : ClassId, ArrOfT s c ty ∧ va_RA s c ty := by
  obtain ⟨c, k, comp, h1, h2, h3⟩ := Cond.arrayClass_spec h
  refine ⟨c, fun n z => ⟨fun k h => (by cases h), k, h2, comp, h3⟩, ?_⟩
  rcases hp with rfl | rfl | rfl | rfl <;> exact h1
theorem ra_o {args : Array Value} {s : State} {C : String} (h : (Cond.arrayOver (.object C)).before args s = true) : ∃ c : ClassId, ArrOfT s c (.object C) ∧ va_RA s c (.object C) := by
  obtain ⟨comp, c, k, h1, -, h3, h4, h5⟩ := Cond.arrayOver_spec h
  exact ⟨c, fun n z => ⟨fun k h => (by cases h), k, h3, comp, h4⟩, k, comp, h3, h4, h1, h5⟩
theorem xt_ai : Cond.arrayClass .int ∈ tables_1 := List.mem_of_getElem? (i := 120) (by decide +kernel)
theorem xt_ab : Cond.arrayClass .byte ∈ tables_1 := List.mem_of_getElem? (i := 121) (by decide +kernel)
theorem xt_az : Cond.arrayClass .boolean ∈ tables_1 := List.mem_of_getElem? (i := 2213) (by decide +kernel)
theorem xt_aj : Cond.arrayClass .long ∈ tables_1 := List.mem_of_getElem? (i := 122) (by decide +kernel)
theorem xt_o0 : Cond.arrayOver (.object "LuaMachineModel$Thread_") ∈ tables_1 := List.mem_of_getElem? (i := 2058) (by decide +kernel)
theorem xt_o1 : Cond.arrayOver (.object "LuaMachine$Prototype") ∈ tables_1 := List.mem_of_getElem? (i := 50) (by decide +kernel)
theorem xt_o2 : Cond.arrayOver (.object "LuaMachine$Thing") ∈ tables_1 := List.mem_of_getElem? (i := 130) (by decide +kernel)
theorem xt_o3 : Cond.arrayOver (.object "LuaMachine$Coroutine") ∈ tables_1 := List.mem_of_getElem? (i := 132) (by decide +kernel)
theorem xt_o4 : Cond.arrayOver (.object "LuaMachine$Frame") ∈ tables_1 := List.mem_of_getElem? (i := 1289) (by decide +kernel)
theorem xt_o5 : Cond.arrayOver (.object "java/lang/String") ∈ tables_1 := List.mem_of_getElem? (i := 2060) (by decide +kernel)
theorem ec_ok : ∀ r, r < 160 → 5 ≤ rkF r → rkF r ≠ 7 → ecF r = "LuaMachineModel$Thread_" ∨ ecF r = "LuaMachine$Prototype" ∨ ecF r = "LuaMachine$Thing" ∨ ecF r = "LuaMachine$Coroutine" ∨ ecF r = "LuaMachine$Frame" ∨ ecF r = "java/lang/String" := by decide +kernel
theorem rk_9 : ∀ r, r < 160 → rkF r ≤ 9 := by decide +kernel
theorem ra_of {args : Array Value} {s : State} (h : ∀ w ∈ tables_1, w.before args s = true) (r : Nat) (hr : r < 160) (h0 : rkF r ≠ 0) (h7 : rkF r ≠ 7) : ∃ c : ClassId, ArrOfT s c (atF r) ∧ va_RA s c (atF r) := by
  by_cases h5 : 5 ≤ rkF r
  · have hat : atF r = .object (ecF r) := by
      have := rk_9 r hr
      have : rkF r = 5 ∨ rkF r = 6 ∨ rkF r = 8 ∨ rkF r = 9 := by omega
      unfold atF
      rcases this with z | z | z | z <;> rw [z] <;> rfl
    rw [hat]
    rcases ec_ok r hr h5 h7 with z | z | z | z | z | z <;> rw [z]
    · exact ra_o (h _ xt_o0)
    · exact ra_o (h _ xt_o1)
    · exact ra_o (h _ xt_o2)
    · exact ra_o (h _ xt_o3)
    · exact ra_o (h _ xt_o4)
    · exact ra_o (h _ xt_o5)
  · have : rkF r = 1 ∨ rkF r = 2 ∨ rkF r = 3 ∨ rkF r = 4 := by omega
    unfold atF
    rcases this with z | z | z | z <;> rw [z]
    · exact ra_p (Or.inl rfl) (h _ xt_ai)
    · exact ra_p (Or.inr (Or.inl rfl)) (h _ xt_ab)
    · exact ra_p (Or.inr (Or.inr (Or.inl rfl))) (h _ xt_az)
    · exact ra_p (Or.inr (Or.inr (Or.inr rfl))) (h _ xt_aj)
theorem xi_LM : Cond.instantiable R_LM 7 ∈ wA := kinm (show _ ∈ tables_1 from (List.mem_append_left _ (List.mem_of_getElem? (l := tables_1_1) (i := 36) (by decide +kernel)))) (by decide +kernel)
theorem xi_Ch : Cond.instantiable R_Ch 17 ∈ wA := kinm (show _ ∈ tables_1 from (List.mem_append_left _ (List.mem_of_getElem? (l := tables_1_1) (i := 44) (by decide +kernel)))) (by decide +kernel)
theorem xi_He : Cond.instantiable R_He 16 ∈ wA := kinm (show _ ∈ tables_1 from (List.mem_append_left _ (List.mem_of_getElem? (l := tables_1_1) (i := 124) (by decide +kernel)))) (by decide +kernel)
theorem xi_Ta : Cond.instantiable R_Ta 9 ∈ wA := kinm (show _ ∈ tables_1 from (List.mem_append_left _ (List.mem_of_getElem? (l := tables_1_1) (i := 206) (by decide +kernel)))) (by decide +kernel)
theorem xi_Ma : Cond.instantiable R_Ma 18 ∈ wA := kinm (show _ ∈ tables_1 from (List.mem_append_right _ (List.mem_append_left _ (List.mem_of_getElem? (l := tables_1_2) (i := 13) (by decide +kernel))))) (by decide +kernel)
theorem xi_St : Cond.instantiable R_St 13 ∈ wA := kinm (show _ ∈ tables_1 from (List.mem_append_right _ (List.mem_append_left _ (List.mem_of_getElem? (l := tables_1_2) (i := 135) (by decide +kernel))))) (by decide +kernel)
theorem xi_Bu : Cond.instantiable R_Bu 7 ∈ wA := kinm (show _ ∈ tables_1 from (List.mem_append_right _ (List.mem_append_left _ (List.mem_of_getElem? (l := tables_1_2) (i := 181) (by decide +kernel))))) (by decide +kernel)
theorem xi_Ro : Cond.instantiable R_Ro 3 ∈ wA := kinm (show _ ∈ tables_1 from (List.mem_append_right _ (List.mem_append_left _ (List.mem_of_getElem? (l := tables_1_2) (i := 19) (by decide +kernel))))) (by decide +kernel)
theorem xi_Pr : Cond.instantiable R_Pr 13 ∈ wA := kinm (show _ ∈ tables_1 from (List.mem_append_right _ (List.mem_append_right _ (List.mem_append_left _ (List.mem_of_getElem? (l := tables_1_3) (i := 126) (by decide +kernel)))))) (by decide +kernel)
theorem xi_Mo : Cond.instantiable R_Mo 100 ∈ wA := kinm (show _ ∈ tables_1 from (List.mem_append_right _ (List.mem_append_right _ (List.mem_append_right _ (List.mem_append_right _ (List.mem_append_right _ (List.mem_append_right _ (List.mem_append_right _ (List.mem_append_right _ (List.mem_append_left _ (List.mem_of_getElem? (l := tables_1_9) (i := 110) (by decide +kernel)))))))))))) (by decide +kernel)
theorem xi_Va : Cond.instantiable R_Va 3 ∈ wA := kinm (show _ ∈ tables_1 from (List.mem_append_right _ (List.mem_append_right _ (List.mem_append_right _ (List.mem_append_right _ (List.mem_append_right _ (List.mem_append_right _ (List.mem_append_right _ (List.mem_append_right _ (List.mem_append_left _ (List.mem_of_getElem? (l := tables_1_9) (i := 117) (by decide +kernel)))))))))))) (by decide +kernel)
theorem xi_Th : Cond.instantiable R_Th 22 ∈ wA := kinm (show _ ∈ tables_1 from (List.mem_append_right _ (List.mem_append_right _ (List.mem_append_right _ (List.mem_append_right _ (List.mem_append_right _ (List.mem_append_right _ (List.mem_append_right _ (List.mem_append_right _ (List.mem_append_left _ (List.mem_of_getElem? (l := tables_1_9) (i := 198) (by decide +kernel)))))))))))) (by decide +kernel)
theorem xi_Tg : Cond.instantiable R_Tg 16 ∈ wA := kinm (show _ ∈ tables_1 from (List.mem_append_right _ (List.mem_append_right _ (List.mem_append_right _ (List.mem_append_right _ (List.mem_append_left _ (List.mem_of_getElem? (l := tables_1_5) (i := 167) (by decide +kernel)))))))) (by decide +kernel)
theorem xi_Co : Cond.instantiable R_Co 12 ∈ wA := kinm (show _ ∈ tables_1 from (List.mem_append_right _ (List.mem_append_right _ (List.mem_append_right _ (List.mem_append_right _ (List.mem_append_right _ (List.mem_append_left _ (List.mem_of_getElem? (l := tables_1_6) (i := 83) (by decide +kernel))))))))) (by decide +kernel)
theorem xi_Fm : Cond.instantiable R_Fm 9 ∈ wA := kinm (show _ ∈ tables_1 from (List.mem_append_right _ (List.mem_append_right _ (List.mem_append_right _ (List.mem_append_right _ (List.mem_append_right _ (List.mem_append_left _ (List.mem_of_getElem? (l := tables_1_6) (i := 90) (by decide +kernel))))))))) (by decide +kernel)
theorem vk_of {args : Array Value} {s : State} {w0 : Cond} (hts : ∀ w ∈ (w0 :: wA), w.before args s = true) : ∃ D : va_G, va_K D vwCl [] s := by
  obtain ⟨c0, iS0, hKn0⟩ := u_known (C := R_LM) (T := TLM) (N := 7) (n := 7) hts (fun w h => List.mem_cons_of_mem _ (ic_LM w h)) (hts (.instantiable R_LM 7) (List.mem_cons_of_mem _ xi_LM))
  obtain ⟨c1, iS1, hKn1⟩ := u_known (C := R_Ch) (T := TCh) (N := 17) (n := 17) hts (fun w h => List.mem_cons_of_mem _ (ic_Ch w h)) (hts (.instantiable R_Ch 17) (List.mem_cons_of_mem _ xi_Ch))
  obtain ⟨c2, iS2, hKn2⟩ := u_known (C := R_He) (T := THe) (N := 16) (n := 16) hts (fun w h => List.mem_cons_of_mem _ (ic_He w h)) (hts (.instantiable R_He 16) (List.mem_cons_of_mem _ xi_He))
  obtain ⟨c3, iS3, hKn3⟩ := u_known (C := R_Ta) (T := TTa) (N := 9) (n := 9) hts (fun w h => List.mem_cons_of_mem _ (ic_Ta w h)) (hts (.instantiable R_Ta 9) (List.mem_cons_of_mem _ xi_Ta))
  obtain ⟨c4, iS4, hKn4⟩ := u_known (C := R_Ma) (T := TMa) (N := 18) (n := 18) hts (fun w h => List.mem_cons_of_mem _ (ic_Ma w h)) (hts (.instantiable R_Ma 18) (List.mem_cons_of_mem _ xi_Ma))
  obtain ⟨c5, iS5, hKn5⟩ := u_known (C := R_St) (T := TSt) (N := 13) (n := 13) hts (fun w h => List.mem_cons_of_mem _ (ic_St w h)) (hts (.instantiable R_St 13) (List.mem_cons_of_mem _ xi_St))
  obtain ⟨c6, iS6, hKn6⟩ := u_known (C := R_Bu) (T := TBu) (N := 7) (n := 7) hts (fun w h => List.mem_cons_of_mem _ (ic_Bu w h)) (hts (.instantiable R_Bu 7) (List.mem_cons_of_mem _ xi_Bu))
  obtain ⟨c7, iS7, hKn7⟩ := u_known (C := R_Ro) (T := TRo) (N := 3) (n := 3) hts (fun w h => List.mem_cons_of_mem _ (ic_Ro w h)) (hts (.instantiable R_Ro 3) (List.mem_cons_of_mem _ xi_Ro))
  obtain ⟨c8, iS8, hKn8⟩ := u_known (C := R_Pr) (T := TPr) (N := 13) (n := 13) hts (fun w h => List.mem_cons_of_mem _ (ic_Pr w h)) (hts (.instantiable R_Pr 13) (List.mem_cons_of_mem _ xi_Pr))
  obtain ⟨c9, iS9, hKn9⟩ := u_known (C := R_Mo) (T := TMo) (N := 100) (n := 100) hts (fun w h => List.mem_cons_of_mem _ (ic_Mo w h)) (hts (.instantiable R_Mo 100) (List.mem_cons_of_mem _ xi_Mo))
  obtain ⟨c10, iS10, hKn10⟩ := u_known (C := R_Va) (T := TVa) (N := 3) (n := 3) hts (fun w h => List.mem_cons_of_mem _ (ic_Va w h)) (hts (.instantiable R_Va 3) (List.mem_cons_of_mem _ xi_Va))
  obtain ⟨c11, iS11, hKn11⟩ := u_known (C := R_Th) (T := TTh) (N := 22) (n := 22) hts (fun w h => List.mem_cons_of_mem _ (ic_Th w h)) (hts (.instantiable R_Th 22) (List.mem_cons_of_mem _ xi_Th))
  obtain ⟨c12, iS12, hKn12⟩ := u_known (C := R_Tg) (T := TTg) (N := 16) (n := 16) hts (fun w h => List.mem_cons_of_mem _ (ic_Tg w h)) (hts (.instantiable R_Tg 16) (List.mem_cons_of_mem _ xi_Tg))
  obtain ⟨c13, iS13, hKn13⟩ := u_known (C := R_Co) (T := TCo) (N := 12) (n := 12) hts (fun w h => List.mem_cons_of_mem _ (ic_Co w h)) (hts (.instantiable R_Co 12) (List.mem_cons_of_mem _ xi_Co))
  obtain ⟨c14, iS14, hKn14⟩ := u_known (C := R_Fm) (T := TFm) (N := 9) (n := 9) hts (fun w h => List.mem_cons_of_mem _ (ic_Fm w h)) (hts (.instantiable R_Fm 9) (List.mem_cons_of_mem _ xi_Fm))
  refine ⟨(fun k => if k = 0 then c0 else if k = 1 then c1 else if k = 2 then c2 else if k = 3 then c3 else if k = 4 then c4 else if k = 5 then c5 else if k = 6 then c6 else if k = 7 then c7 else if k = 8 then c8 else if k = 9 then c9 else if k = 10 then c10 else if k = 11 then c11 else if k = 12 then c12 else if k = 13 then c13 else c14, fun k => if k = 0 then iS0 else if k = 1 then iS1 else if k = 2 then iS2 else if k = 3 then iS3 else if k = 4 then iS4 else if k = 5 then iS5 else if k = 6 then iS6 else if k = 7 then iS7 else if k = 8 then iS8 else if k = 9 then iS9 else if k = 10 then iS10 else if k = 11 then iS11 else if k = 12 then iS12 else if k = 13 then iS13 else iS14), ?_, fun k q h => by simp at h⟩
  intro k q hq
  match k, hq with
  | 0, hq => cases hq; exact hKn0
  | 1, hq => cases hq; exact hKn1
  | 2, hq => cases hq; exact hKn2
  | 3, hq => cases hq; exact hKn3
  | 4, hq => cases hq; exact hKn4
  | 5, hq => cases hq; exact hKn5
  | 6, hq => cases hq; exact hKn6
  | 7, hq => cases hq; exact hKn7
  | 8, hq => cases hq; exact hKn8
  | 9, hq => cases hq; exact hKn9
  | 10, hq => cases hq; exact hKn10
  | 11, hq => cases hq; exact hKn11
  | 12, hq => cases hq; exact hKn12
  | 13, hq => cases hq; exact hKn13
  | 14, hq => cases hq; exact hKn14
  | k + 15, hq => simp [vwCl] at hq
/-- the numbers of the start: its base, classes, rows' classes, String constants, the two caps -/
noncomputable def pp0 (s : State) (D : va_G) (cA aS aW : Nat → Nat) : PP := (s.heap.size, D, (fun r => if r < 1000 then cA r else if r < 2000 then aS (r - 1000) else if r < 3000 then aW (r - 2000) else 0), s.heap.size + 601024, tot s.heap + 7293034)
theorem pf_s (cA aS aW : Nat → Nat) {n : Nat} (h : n < 1000) : (if 1000 + n < 1000 then cA (1000 + n) else if 1000 + n < 2000 then aS (1000 + n - 1000) else if 1000 + n < 3000 then aW (1000 + n - 2000) else 0) = aS n := by
  have h1 : ¬ 1000 + n < 1000 := by omega
  have h2 : 1000 + n < 2000 := by omega
  rw [if_neg h1, if_pos h2, Nat.add_sub_cancel_left]
theorem pf_v (cA aS aW : Nat → Nat) {n : Nat} (h : n < 1000) : (if 2000 + n < 1000 then cA (2000 + n) else if 2000 + n < 2000 then aS (2000 + n - 1000) else if 2000 + n < 3000 then aW (2000 + n - 2000) else 0) = aW n := by
  have h1 : ¬ 2000 + n < 1000 := by omega
  have h2 : ¬ 2000 + n < 2000 := by omega
  have h3 : 2000 + n < 3000 := by omega
  rw [if_neg h1, if_neg h2, if_pos h3, Nat.add_sub_cancel_left]
set_option maxRecDepth 10000 in
theorem kk_of {args : Array Value} {s : State} {w0 : Cond} (hts : ∀ w ∈ (w0 :: wA), w.before args s = true) (h : ∀ w ∈ tables_1, w.before args s = true) (hg : ∀ w ∈ xGiven, w.before args s = true) : ∃ P : PP, Kk P s ∧ P.1 = s.heap.size ∧ P.2.2.1 3000 = 0 ∧ P.2.2.1 3001 = 0 ∧ P.2.2.2.1 = s.heap.size + 601024 ∧ P.2.2.2.2 = tot s.heap + 7293034 := by
  obtain ⟨D, hD⟩ := vk_of hts
  have hA : ∀ a : Nat, a < s.heap.size → ¬ (fun a => s.heap.size ≤ a) a := fun a h z => absurd z (Nat.not_le.mpr h)
  have hst : ∀ n, ∃ p : Nat × Nat, n < nSt → StA n p.1 p.2 (fun a => s.heap.size ≤ a) s := fun n => by
    by_cases hn : n < nSt
    · obtain ⟨a, v, z⟩ := st_of h hg hA hn
      exact ⟨(a, v), fun _ => z⟩
    · exact ⟨(0, 0), fun z => absurd z hn⟩
  have hra : ∀ r, ∃ c : ClassId, rkF r ≠ 0 → rkF r ≠ 7 → ArrOfT s c (atF r) ∧ va_RA s c (atF r) := fun r => by
    by_cases hr : rkF r ≠ 0 ∧ rkF r ≠ 7
    · obtain ⟨c, z⟩ := ra_of h r (rk_lt hr.2) hr.1 hr.2
      exact ⟨c, fun _ _ => z⟩
    · exact ⟨0, fun a b => absurd ⟨a, b⟩ hr⟩
  refine ⟨pp0 s D (fun r => (hra r).choose) (fun n => (hst n).choose.1) (fun n => (hst n).choose.2), ⟨hD, ?_, xB_of h, ⟨?_, ?_, ?_⟩, ?_⟩, rfl, rfl, rfl, rfl, rfl⟩
  · intro r
    have key : rkF r ≠ 0 → rkF r ≠ 7 → ArrOfT s ((pp0 s D (fun r => (hra r).choose) (fun n => (hst n).choose.1) (fun n => (hst n).choose.2)).2.2.1 r) (atF r) := fun h0 h7 => by
      have hr := rk_lt h7
      show ArrOfT s (if r < 1000 then _ else _) _
      rw [if_pos (by omega)]
      exact ((hra r).choose_spec h0 h7).1
    refine ⟨fun e => ?_, fun e => ?_, fun e => ?_, fun e => ?_, fun e e7 => ⟨ecF r, ?_⟩⟩
    · have z := key (by omega) (by omega)
      unfold atF at z
      rw [e] at z
      exact z
    · have z := key (by omega) (by omega)
      unfold atF at z
      rw [e] at z
      exact z
    · have z := key (by omega) (by omega)
      unfold atF at z
      rw [e] at z
      exact z
    · have z := key (by omega) (by omega)
      unfold atF at z
      rw [e] at z
      exact z
    · have z := key (by omega) e7
      have hr := rk_lt e7
      have := rk_9 r hr
      have h5 : rkF r = 5 ∨ rkF r = 6 ∨ rkF r = 8 ∨ rkF r = 9 := by omega
      unfold atF at z
      rcases h5 with e5 | e5 | e5 | e5 <;> (rw [e5] at z; exact z)
  · exact va_Zof (h _ xt_cs) (h _ xt_si) (eq_ev (hg _ xg_cs)) hA
  · exact va_Zqof (h _ xt_sf) (h _ xt_pi) (hg _ xg_sf) hA
  · intro n hn
    have z := (hst n).choose_spec hn
    have := nst_ok
    have e1 : aK (pp0 s D (fun r => (hra r).choose) (fun n => (hst n).choose.1) (fun n => (hst n).choose.2)) n = (hst n).choose.1 := pf_s (fun r => (hra r).choose) (fun n => (hst n).choose.1) (fun n => (hst n).choose.2) (by omega)
    have e2 : aV (pp0 s D (fun r => (hra r).choose) (fun n => (hst n).choose.1) (fun n => (hst n).choose.2)) n = (hst n).choose.2 := pf_v (fun r => (hra r).choose) (fun n => (hst n).choose.1) (fun n => (hst n).choose.2) (by omega)
    rw [e1, e2]
    exact z
  · intro r h0 h7
    have hr := rk_lt h7
    show ArrOfT s (if r < 1000 then _ else _) _ ∧ va_RA s (if r < 1000 then _ else _) _
    rw [if_pos (by omega)]
    exact (hra r).choose_spec h0 h7
