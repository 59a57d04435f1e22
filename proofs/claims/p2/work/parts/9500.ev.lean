/-! The construction of both machines: the order in which things are made and written, one number each; what they hold at the end. -/
def eL : List (Nat × Nat) := [(12927, 1), (13055, 2), (13183, 3), (12928, 4), (13311, 5), (12929, 6), (13439, 7), (12930, 8), (13567, 9), (12931, 10), (13695, 11), (12932, 12), (13823, 13), (12933, 14), (13951, 15), (12934, 16), (14079, 17), (12935, 18), (14207, 19), (12936, 20), (12944, 21), (12802, 22), (14335, 23), (14463, 24), (14208, 25), (14591, 26), (14210, 27), (14719, 28), (14212, 29), (14847, 30), (14213, 31), (14975, 32), (14214, 33), (15103, 34), (14215, 35), (15231, 36), (14216, 37), (15359, 38), (14218, 39), (14220, 40), (12803, 41), (15487, 42), (15615, 43), (15360, 44), (15743, 45), (15361, 46), (15871, 47), (15362, 48), (15999, 49), (15363, 50), (16127, 51), (15364, 52), (16255, 53), (15365, 54), (16383, 55), (15366, 56), (15368, 57), (16511, 58), (17023, 59), (17151, 60), (16896, 61), (17279, 62), (16897, 63), (16387, 64), (17407, 65), (17535, 66), (17280, 67), (17663, 68), (17281, 69), (16388, 70), (17791, 71), (17919, 72), (17664, 73), (18047, 74), (17665, 75), (16389, 76), (18175, 77), (18303, 78), (18048, 79), (18431, 80), (18049, 81), (16391, 82), (16384, 83), (16385, 84), (16386, 85), (12804, 86), (14222, 87), (14223, 88), (16639, 89), (16512, 90), (16513, 91), (16514, 92), (16515, 93), (12805, 94), (16767, 95), (16895, 96), (16640, 97), (16642, 98), (16643, 99), (16644, 100), (16645, 101), (16646, 102), (12806, 103), (127, 104), (5375, 105), (0, 106), (4, 107), (5503, 108), (6, 109), (5631, 110), (7, 111), (5759, 112), (8, 113), (5887, 114), (9, 115), (6015, 116), (10, 117), (6143, 118), (11, 119), (6271, 120), (12, 121), (6399, 122), (13, 123), (6527, 124), (14, 125), (6655, 126), (15, 127), (6783, 128), (16, 129), (6911, 130), (17, 131), (7039, 132), (18, 133), (7167, 134), (19, 135), (7295, 136), (20, 137), (255, 138), (383, 139), (128, 140), (511, 141), (129, 142), (21, 143), (7423, 144), (22, 145), (7551, 146), (45, 147), (7679, 148), (46, 149), (7807, 150), (47, 151), (7935, 152), (48, 153), (8063, 154), (49, 155), (8191, 156), (50, 157), (8319, 158), (51, 159), (8447, 160), (52, 161), (8575, 162), (53, 163), (8703, 164), (55, 165), (8831, 166), (56, 167), (639, 168), (767, 169), (512, 170), (895, 171), (513, 172), (63, 173), (9727, 174), (68, 175), (2175, 176), (2303, 177), (2048, 178), (2431, 179), (2049, 180), (70, 181), (9855, 182), (71, 183), (74, 184), (1023, 185), (1151, 186), (896, 187), (1279, 188), (897, 189), (77, 190), (1407, 191), (1535, 192), (1280, 193), (1663, 194), (1281, 195), (78, 196), (1791, 197), (1919, 198), (1664, 199), (2047, 200), (1665, 201), (79, 202), (9983, 203), (82, 204), (10111, 205), (178000, 206), (178001, 207), (178002, 208), (178003, 209), (178004, 210), (178005, 211), (178006, 212), (178007, 213), (178008, 214), (178009, 215), (178010, 216), (178011, 217), (178012, 218), (178013, 219), (178014, 220), (178015, 221), (178016, 222), (178017, 223), (178018, 224), (178019, 225), (178020, 226), (178021, 227), (178022, 228), (178023, 229), (83, 230), (10239, 231), (179000, 232), (179001, 233), (179002, 234), (179003, 235), (179004, 236), (179005, 237), (179006, 238), (179007, 239), (179008, 240), (179009, 241), (179010, 242), (179011, 243), (179012, 244), (179013, 245), (179014, 246), (179015, 247), (179016, 248), (179017, 249), (179018, 250), (179019, 251), (179020, 252), (179021, 253), (84, 254), (10367, 255), (180000, 256), (180001, 257), (180002, 258), (180003, 259), (180004, 260), (180005, 261), (180006, 262), (85, 263), (10495, 264), (181000, 265), (181001, 266), (181002, 267), (181003, 268), (86, 269), (10623, 270), (87, 271), (10751, 272), (88, 273), (10879, 274), (89, 275), (11007, 276), (90, 277), (11135, 278), (91, 279), (11263, 280), (93, 281), (11391, 282), (94, 283), (11519, 284), (97, 285), (3711, 286), (3584, 287), (2559, 288), (2687, 289), (2432, 290), (2815, 291), (2433, 292), (3591, 293), (2943, 294), (3071, 295), (2816, 296), (3199, 297), (2817, 298), (3592, 299), (3327, 300), (3455, 301), (3200, 302), (3583, 303), (3201, 304), (3593, 305), (3839, 306), (3594, 307), (3967, 308), (3595, 309), (4095, 310), (3596, 311), (4223, 312), (3597, 313), (4351, 314), (3598, 315), (4479, 316), (3599, 317), (4607, 318), (3600, 319), (4735, 320), (3601, 321), (4863, 322), (3602, 323), (4991, 324), (3603, 325), (5119, 326), (3604, 327), (5247, 328), (3605, 329), (200000, 330), (32, 1771), (19967, 1772)]
def eoF (f : Nat) : Nat := match eL.find? (fun p => p.1 == f) with
  | some p => p.2
  | none => 0
def eiF (n : Nat) : Nat := match eL.find? (fun p => p.2 == n) with
  | some p => p.1
  | none => 0
theorem eo_mem {f : Nat} (h : eoF f ≠ 0) : (f, eoF f) ∈ eL := by
  unfold eoF at h ⊢
  cases e : eL.find? (fun p => p.1 == f) with
  | none => rw [e] at h; exact absurd rfl h
  | some p =>
    have h1 := List.mem_of_find?_eq_some e
    have h2 := List.find?_some e
    have h3 : p.1 = f := by simpa using h2
    show (f, p.2) ∈ eL
    rw [← h3]
    exact h1
def tnF (f : Nat) : Prop := (2432 ≤ f ∧ f < 5248) ∨ f = 200000
def elB (p : Nat × Nat) : Bool := eiF p.2 == p.1 && (if (2432 ≤ p.1 ∧ p.1 < 5248) ∨ p.1 = 200000 then decide (286 ≤ p.2) && decide (p.2 < 331) else (decide (p.2 < 286) || decide (1771 ≤ p.2)) && decide (p.2 < 1773))
theorem el_ok : eL.all elB = true := by decide +kernel
theorem ei_eo (f : Nat) (h : eoF f ≠ 0) : eiF (eoF f) = f := by
  have z := List.all_eq_true.mp el_ok _ (eo_mem h)
  unfold elB at z
  simp only [Bool.and_eq_true, beq_iff_eq] at z
  exact z.1
theorem eo_rg (f : Nat) (h : eoF f ≠ 0) : (tnF f ∧ 286 ≤ eoF f ∧ eoF f < 331) ∨ (¬ tnF f ∧ (eoF f < 286 ∨ 1771 ≤ eoF f) ∧ eoF f < 1773) := by
  have z := List.all_eq_true.mp el_ok _ (eo_mem h)
  unfold elB at z
  simp only [Bool.and_eq_true, beq_iff_eq] at z
  have z := z.2
  unfold tnF
  by_cases c : (2432 ≤ f ∧ f < 5248) ∨ f = 200000
  · rw [if_pos c] at z
    simp only [Bool.and_eq_true, decide_eq_true_eq] at z
    exact Or.inl ⟨c, z⟩
  · rw [if_neg c] at z
    simp only [Bool.and_eq_true, Bool.or_eq_true, decide_eq_true_eq] at z
    exact Or.inr ⟨c, z⟩
def s0I : Nat → Int32 := fun f => match f with
  | 4 => -1
  | 32 => 1000
  | 72 => -1
  | 74 => -1
  | 3584 => -1
  | 3590 => -1
  | 12944 => -1
  | 14220 => 1000
  | 15230 => 1024
  | 16395 => -1
  | 16516 => -1
  | 16517 => -1
  | 16518 => -1
  | _ => 0
/-- both machines when they are new -/
def S0 : S1 := (fun f _ => s0I f, fun _ _ => 0, fun _ _ _ => 0, fun _ _ _ => 0)
theorem s0_127 (t : Nat) : s0I (128 * t + 127) = 0 := by
  unfold s0I
  split <;> first | omega | rfl
theorem cn_ok : ∀ r, r < 160 → dyF r = false → (cnF r = 33 ∧ 19 ≤ r ∧ r ≤ 40) ∨ (cnF r ≤ 1 ∧ (r < 19 ∨ 40 < r)) := by decide +kernel
def okB (r k : Nat) : Bool := dyF r || ((tcG (128 * r + k) != 2 || (eoF (128 * tgG (128 * r + k) + 127) != 0 && decide (eoF (128 * tgG (128 * r + k) + 127) < eoF (128 * r + k)) && decide (tgG (128 * r + k) < 160) && !dyF (tgG (128 * r + k)) && cnF (tgG (128 * r + k)) == cnF r)) && (tcG (128 * r + k) != 4 || s0I (128 * r + k) == -1) && (eoF (128 * r + k) != 0 || (tcG (128 * r + k) != 0 || s0I (128 * r + k) == 0) && tcG (128 * r + k) != 2) && (eoF (128 * r + k) == 0 || decide (eoF (128 * r + 127) < eoF (128 * r + k))))
theorem ok_all : (List.range 160).all (fun r => (dyF r || cnF r == 0 || eoF (128 * r + 127) != 0) && (List.range (nfF r)).all (fun k => okB r k)) = true := by decide +kernel
theorem pr_ok (r : Nat) (hr : r < 160) (hd : dyF r = false) (h : 0 < cnF r) : eoF (128 * r + 127) ≠ 0 := by
  have z := List.all_eq_true.mp ok_all r (List.mem_range.mpr hr)
  rw [Bool.and_eq_true] at z
  have z := z.1
  rw [hd] at z
  intro e
  rw [e] at z
  have : (cnF r == 0) = false := by simp; omega
  rw [this] at z
  cases z
theorem ok_at {r k : Nat} (hr : r < 160) (hd : dyF r = false) (hk : k < nfF r) : ((tcG (128 * r + k) = 2 → eoF (128 * tgG (128 * r + k) + 127) ≠ 0 ∧ eoF (128 * tgG (128 * r + k) + 127) < eoF (128 * r + k) ∧ tgG (128 * r + k) < 160 ∧ dyF (tgG (128 * r + k)) = false ∧ cnF (tgG (128 * r + k)) = cnF r) ∧ (tcG (128 * r + k) = 4 → s0I (128 * r + k) = -1) ∧ (eoF (128 * r + k) = 0 → (tcG (128 * r + k) = 0 → s0I (128 * r + k) = 0) ∧ tcG (128 * r + k) ≠ 2)) ∧ (eoF (128 * r + k) ≠ 0 → eoF (128 * r + 127) < eoF (128 * r + k)) := by
  have z := List.all_eq_true.mp ok_all r (List.mem_range.mpr hr)
  rw [Bool.and_eq_true] at z
  have z := List.all_eq_true.mp z.2 k (List.mem_range.mpr hk)
  unfold okB at z
  rw [hd, Bool.false_or] at z
  simp only [Bool.and_eq_true, Bool.or_eq_true, bne_iff_ne, beq_iff_eq, decide_eq_true_eq, Bool.not_eq_true'] at z
  obtain ⟨⟨⟨z1, z2⟩, z3⟩, z4⟩ := z
  refine ⟨⟨fun e => ?_, fun e => ?_, fun e => ?_⟩, fun e => ?_⟩
  · rcases z1 with z | ⟨⟨⟨⟨a, b⟩, c⟩, d⟩, f⟩
    · exact absurd e z
    · exact ⟨a, b, c, d, f⟩
  · exact z2.resolve_left (fun z => z e)
  · rcases z3 with z | ⟨a, b⟩
    · exact absurd e z
    · exact ⟨fun w => a.resolve_left (fun z => z w), b⟩
  · exact z4.resolve_left e
theorem tg_ok (r : Nat) (hr : r < 160) (hd : dyF r = false) (k : Nat) (hk : k < nfF r) (h : tcG (128 * r + k) = 2) : eoF (128 * tgG (128 * r + k) + 127) ≠ 0 ∧ eoF (128 * tgG (128 * r + k) + 127) < eoF (128 * r + k) ∧ tgG (128 * r + k) < 160 ∧ dyF (tgG (128 * r + k)) = false ∧ cnF (tgG (128 * r + k)) = cnF r := (ok_at hr hd hk).1.1 h
theorem k4_ok (r : Nat) (hr : r < 160) (hd : dyF r = false) (k : Nat) (hk : k < nfF r) (h : tcG (128 * r + k) = 4) : s0I (128 * r + k) = -1 := (ok_at hr hd hk).1.2.1 h
theorem z_ok (r : Nat) (hr : r < 160) (hd : dyF r = false) (k : Nat) (hk : k < nfF r) (h : eoF (128 * r + k) = 0) : (tcG (128 * r + k) = 0 → s0I (128 * r + k) = 0) ∧ tcG (128 * r + k) ≠ 2 := (ok_at hr hd hk).1.2.2 h
theorem lt_ok {r k : Nat} (hr : r < 160) (hd : dyF r = false) (hk : k < nfF r) (h : eoF (128 * r + k) ≠ 0) : eoF (128 * r + 127) < eoF (128 * r + k) := (ok_at hr hd hk).2 h
def eo (f : Nat) (i : Int32) : Nat := if (2432 ≤ f ∧ f < 5248) ∨ f = 200000 then (if eoF f = 0 then 0 else eoF f + i.toNatClampNeg * 45) else eoF f
theorem eo_T {f : Nat} {i : Int32} (h : tnF f) (h0 : eoF f ≠ 0) : eo f i = eoF f + i.toNatClampNeg * 45 := by
  unfold eo
  unfold tnF at h
  rw [if_pos h, if_neg h0]
theorem eo_S {f : Nat} {i : Int32} (h : ¬ tnF f) : eo f i = eoF f := by
  unfold eo
  unfold tnF at h
  rw [if_neg h]
theorem eo_0 {f : Nat} {i : Int32} (h : eoF f = 0) : eo f i = 0 := by
  unfold eo
  rw [h]
  split <;> rfl
theorem eo_ne {f : Nat} {i : Int32} (h : eo f i ≠ 0) : eoF f ≠ 0 := fun z => h (eo_0 z)
theorem eo_pos {f : Nat} {i : Int32} (h : eoF f ≠ 0) : eo f i ≠ 0 := by
  by_cases t : tnF f
  · rw [eo_T t h]; omega
  · rw [eo_S t]; exact h
theorem clamp_ij {i j : Int32} (hi : 0 ≤ i) (hj : 0 ≤ j) (h : i.toNatClampNeg = j.toNatClampNeg) : i = j := by
  rw [← i_of_clamp hi, ← i_of_clamp hj, h]
theorem eo_uq {f f' : Nat} {i i' : Int32} (hi : i.toNatClampNeg < 33) (hi' : i'.toNatClampNeg < 33) (h : eo f i = eo f' i') (h0 : eo f i ≠ 0) : f = f' ∧ (tnF f → i.toNatClampNeg = i'.toNatClampNeg) := by
  have n1 := eo_ne h0
  have n2 : eoF f' ≠ 0 := eo_ne (by rw [← h]; exact h0)
  have r1 := eo_rg f n1
  have r2 := eo_rg f' n2
  have go : eoF f = eoF f' → f = f' := fun z => by rw [← ei_eo f n1, z, ei_eo f' n2]
  by_cases t1 : tnF f
  · by_cases t2 : tnF f'
    · rw [eo_T t1 n1, eo_T t2 n2] at h
      rcases r1 with ⟨-, a1, a2⟩ | ⟨z, -⟩
      · rcases r2 with ⟨-, b1, b2⟩ | ⟨z, -⟩
        · exact ⟨go (by omega), fun _ => by omega⟩
        · exact absurd t2 z
      · exact absurd t1 z
    · rw [eo_T t1 n1, eo_S t2] at h
      rcases r1 with ⟨-, a1, a2⟩ | ⟨z, -⟩
      · rcases r2 with ⟨z, -⟩ | ⟨-, b1, -⟩
        · exact absurd z t2
        · exfalso; omega
      · exact absurd t1 z
  · by_cases t2 : tnF f'
    · rw [eo_S t1, eo_T t2 n2] at h
      rcases r2 with ⟨-, a1, a2⟩ | ⟨z, -⟩
      · rcases r1 with ⟨z, -⟩ | ⟨-, b1, -⟩
        · exact absurd z t1
        · exfalso; omega
      · exact absurd t2 z
    · rw [eo_S t1, eo_S t2] at h
      exact ⟨go h, fun z => absurd z t1⟩
/-- one of a role that the constructors make -/
def vd (r : Nat) (i : Int32) : Prop := dyF r = false ∧ 0 ≤ i ∧ i.toNatClampNeg < cnF r
theorem vd.lt {r : Nat} {i : Int32} (h : vd r i) : r < 160 := by
  by_cases hr : r < 160
  · exact hr
  · exfalso
    have h2 := h.2.2
    revert h2
    unfold cnF
    split <;> first | omega | (intro z; omega)
theorem vd.i {r : Nat} {i : Int32} (h : vd r i) : i.toNatClampNeg < 33 := by
  have h2 := h.2.2
  rcases cn_ok r h.lt h.1 with ⟨z, -⟩ | ⟨z, -⟩ <;> omega
theorem vd.ti {r k : Nat} {i i' : Int32} (hk : k < 128) (h : vd r i) (h' : vd r i') (z : tnF (128 * r + k) → i.toNatClampNeg = i'.toNatClampNeg) : i = i' := by
  refine clamp_ij h.2.1 h'.2.1 ?_
  have a := h.2.2
  have b := h'.2.2
  rcases cn_ok r h.lt h.1 with ⟨z1, z2⟩ | ⟨z1, z2⟩
  · exact z (Or.inl ⟨by omega, by omega⟩)
  · omega
theorem vd.uq {r r' k k' : Nat} {i i' : Int32} (v : vd r i) (v' : vd r' i') (hk : k < 128) (hk' : k' < 128) (h : eo (128 * r + k) i = eo (128 * r' + k') i') (h0 : eo (128 * r + k) i ≠ 0) : r = r' ∧ k = k' ∧ i = i' := by
  obtain ⟨a, b⟩ := eo_uq v.i v'.i h h0
  have e1 : r = r' := by omega
  subst e1
  exact ⟨rfl, by omega, v.ti hk v' b⟩
theorem vd.pr {r : Nat} {i : Int32} (v : vd r i) : eo (128 * r + 127) i ≠ 0 := eo_pos (pr_ok r v.lt v.1 (by have := v.2.2; omega))
/-- what a field points to is made before it is written -/
theorem vd.tg {r k : Nat} {i : Int32} (v : vd r i) (hk : k < nfF r) (h : tcG (128 * r + k) = 2) : vd (tgG (128 * r + k)) i ∧ eo (128 * tgG (128 * r + k) + 127) i < eo (128 * r + k) i := by
  obtain ⟨a1, a2, a3, a4, a5⟩ := tg_ok r v.lt v.1 k hk h
  have hk1 := nfF_le r
  have hr1 := v.lt
  refine ⟨⟨a4, v.2.1, by rw [a5]; exact v.2.2⟩, ?_⟩
  have b0 : eoF (128 * r + k) ≠ 0 := by omega
  rcases cn_ok r v.lt v.1 with ⟨z1, z2⟩ | ⟨z1, z2⟩
  · rcases cn_ok _ a3 a4 with ⟨y1, y2⟩ | ⟨y1, y2⟩
    · rw [eo_T (Or.inl ⟨by omega, by omega⟩) a1, eo_T (Or.inl ⟨by omega, by omega⟩) b0]
      omega
    · omega
  · rcases cn_ok _ a3 a4 with ⟨y1, y2⟩ | ⟨y1, y2⟩
    · omega
    · rw [eo_S (by unfold tnF; omega), eo_S (by unfold tnF; omega)]
      exact a2
