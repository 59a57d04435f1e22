/-! More rows: rows of objects, rows whose length changes, longs copied, answers that are refs. -/
def oPz (t : Nat) (n j : Int32) : M Unit := fun s => if (0 ≤ j ∧ j < n) ∧ (gI s (128 * t + 127) j = 1 ∧ 0 ≤ j ∧ j.toNatClampNeg < cnF t) then some ((), s) else none
def oNz (t : Nat) (n j : Int32) : M Int32 := fun s => if 0 ≤ j ∧ j < n then some (if gI s (128 * t + 127) j = 1 then j else -1, s) else none
def oLn (r : Nat) (i : Int32) : M Int32 := fun s => some (Int32.ofNat (lnS s r i), s)
theorem vr_prs {q : PL} {s : S1} {r : Nat} {x : Int32} (h : prs s r x) : vr q r x = .ref (q.1 r x) := by
  unfold vr
  rw [if_neg]
  intro e
  subst e
  exact absurd h.2.1 (by decide)
theorem pdn {s : S1} {r : Nat} {x : Int32} (hf : gI s (128 * r + 127) x = 1) (h0 : 0 ≤ x) (h : x.toNatClampNeg < cnF r) : prs s r x := ⟨fun _ => hf, h0, h⟩
section RU
variable {X : Cx} {q : PL} {s : S1} {y : MethodName} {cc : ByteArray} {nL : Nat} {ret : Option FieldType} {fr lo : Nat} {own : String} {pc : Nat} {ls : Array Slot} {rest : List Value} {α : Type} {o : α × S1} {i : Int32} {a t : Nat} {index : Nat}
theorem ww_nnP {r : Nat} {x : Int32} (h : prs s r x) (kk : WW X q s pc ls (.ref (q.1 r x) :: rest)) : WW X q s pc ls (vr q r x :: rest) := by rw [vr_prs h]; exact kk
/-- one of a row of objects, which must be there -/
theorem ww_a8 (g : Gd X y cc nL ret fr lo own) {n j : Int32} (hp : prs s a i) (ha : rkF a = 8) (ht : teF a = t) (hd : dyF t = true) (hn : n.toNatClampNeg = lnS s a i) (hdg : decode cc pc = .ok (.aaload, 1)) {kt : Unit → M α} (h : oB (oPz t n j) kt s = some o) (kk : prs s t j → kt () s = some o → WW X q s (pc + 1) ls (.ref (q.1 t j) :: rest)) : WW X q s pc ls (.int j :: .ref (q.1 a i) :: rest) := by
  intro H locs hW hS
  obtain ⟨⟨hx, hb⟩, -, hown, hts, hK, -⟩ := g
  have h2 : ((0 ≤ j ∧ j < n) ∧ (gI s (128 * t + 127) j = 1 ∧ 0 ≤ j ∧ j.toNatClampNeg < cnF t)) ∧ kt () s = some o := by
    unfold oB oPz at h
    by_cases hc : (0 ≤ j ∧ j < n) ∧ (gI s (128 * t + 127) j = 1 ∧ 0 ≤ j ∧ j.toNatClampNeg < cnF t)
    · rw [if_pos hc] at h
      exact ⟨hc, h⟩
    · rw [if_neg hc] at h
      cases h
  obtain ⟨⟨hj, hf⟩, h⟩ := h2
  have hin := j_in hj hn
  obtain ⟨C, hC⟩ := (hK.2.1 a).2.2.2.2 (by omega) (by omega)
  exact W.aald (v := .ref (q.1 t j)) (ty := .object C) hx hb (ar_cell hW hp (by omega) (by omega)) (hC _ _) rfl (fun z => by cases z) (by rw [arrV_size]; exact hin) (by rw [arrV_read _ _ (by omega)]; unfold av; rw [ha]; show some (if gI s (128 * teF a + 127) (Int32.ofNat _) = 1 then Value.ref (q.1 (teF a) (Int32.ofNat _)) else .null) = _; rw [i_of_clamp hj.1, ht, if_pos hf.1]) rfl rfl hdg (kk ⟨fun _ => hf.1, hf.2.1, hf.2.2⟩ h H locs hW hS)
/-- one of a row of objects, or none -/
theorem ww_a8N (g : Gd X y cc nL ret fr lo own) {n j : Int32} (hp : prs s a i) (ha : rkF a = 8) (ht : teF a = t) (hn : n.toNatClampNeg = lnS s a i) (hdg : decode cc pc = .ok (.aaload, 1)) {kt : Int32 → M α} (h : oB (oNz t n j) kt s = some o) (kk : ∀ x : Int32, kt x s = some o → WW X q s (pc + 1) ls (vr q t x :: rest)) : WW X q s pc ls (.int j :: .ref (q.1 a i) :: rest) := by
  intro H locs hW hS
  obtain ⟨⟨hx, hb⟩, -, hown, hts, hK, -⟩ := g
  have h2 : (0 ≤ j ∧ j < n) ∧ kt (if gI s (128 * t + 127) j = 1 then j else -1) s = some o := by
    unfold oB oNz at h
    by_cases hc : 0 ≤ j ∧ j < n
    · rw [if_pos hc] at h
      exact ⟨hc, h⟩
    · rw [if_neg hc] at h
      cases h
  obtain ⟨hj, h⟩ := h2
  have hin := j_in hj hn
  obtain ⟨C, hC⟩ := (hK.2.1 a).2.2.2.2 (by omega) (by omega)
  have k2 := kk _ h H locs hW hS
  have ev : vr q t (if gI s (128 * t + 127) j = 1 then j else -1) = if gI s (128 * t + 127) j = 1 then Value.ref (q.1 t j) else .null := by
    by_cases e : gI s (128 * t + 127) j = 1
    · rw [if_pos e, if_pos e]
      unfold vr
      rw [if_neg]
      intro z
      subst z
      exact absurd hj.1 (by decide)
    · rw [if_neg e, if_neg e]
      exact vr_m1
  rw [ev] at k2
  refine W.aald (v := if gI s (128 * t + 127) j = 1 then Value.ref (q.1 t j) else .null) (ty := .object C) hx hb (ar_cell hW hp (by omega) (by omega)) (hC _ _) rfl (fun z => by cases z) (by rw [arrV_size]; exact hin) ?_ rfl rfl hdg k2
  rw [arrV_read _ _ (by omega)]
  unfold av
  rw [ha]
  show some (if gI s (128 * teF a + 127) (Int32.ofNat _) = 1 then Value.ref (q.1 (teF a) (Int32.ofNat _)) else .null) = _
  rw [i_of_clamp hj.1, ht]
/-- a frame -/
theorem ww_a9 (g : Gd X y cc nL ret fr lo own) {j : Int32} (hp : prs s 148 i) (hdg : decode cc pc = .ok (.aaload, 1)) {kt : Unit → M α} (h : oB (oK (0 ≤ j ∧ j < 200)) kt s = some o) (kk : prs s 152 (i * 200 + j) → kt () s = some o → WW X q s (pc + 1) ls (.ref (q.1 152 (i * 200 + j)) :: rest)) : WW X q s pc ls (.int j :: .ref (q.1 151 i) :: rest) := by
  intro H locs hW hS
  obtain ⟨⟨hx, hb⟩, -, hown, hts, hK, -⟩ := g
  obtain ⟨hj, h⟩ := oK_in h
  obtain ⟨-, -, p3, p4⟩ := hW.2.2.2.2.2.2.2.2 i hp
  have hin := j_in hj (N := 200) rfl
  have hf := p4 j hj
  have hlt : j.toNatClampNeg < lnS s 151 i := (show j.toNatClampNeg < 200 by omega)
  obtain ⟨C, hC⟩ := (hK.2.1 151).2.2.2.2 (by decide) (by decide)
  exact W.aald (v := .ref (q.1 152 (i * 200 + j))) (ty := .object C) hx hb (ar_cell hW p3 (by decide) (by decide)) (hC _ _) rfl (fun z => by cases z) (by rw [arrV_size]; exact hin) (by rw [arrV_read _ _ hlt]; show some (if gI s (128 * 152 + 127) (i * 200 + Int32.ofNat _) = 1 then Value.ref (q.1 152 (i * 200 + Int32.ofNat _)) else .null) = _; rw [i_of_clamp hj.1, if_pos (hf.1 rfl)]) rfl rfl hdg (kk hf h H locs hW hS)
/-- how long a row is now -/
theorem ww_ln {st : List Value} (hp : prs s a i) {kt : Int32 → M α} (h : oB (oLn a i) kt s = some o) (kk : ∀ n : Int32, Int32.ofNat (lnS s a i) = n → n.toNatClampNeg = lnS s a i → kt n s = some o → WW X q s pc ls st) : WW X q s pc ls st := by
  intro H locs hW hS
  have h3 := (hW.2.2.1 a i hp).2.2
  exact kk _ rfl (nI_clamp h3) h H locs hW hS
theorem ww_ifnull5 (g : Gx X cc) {b : Nat} {v : Int32} {off : Int} {tgt : Nat} {m1 m2 : M α} (hdg : decode cc pc = .ok (.ifnull off, 3)) (ht : (pc : Int) + off = (tgt : Int)) (h : oC (v = 1) m2 m1 s = some o) (kt : ¬ v = 1 → m1 s = some o → WW X q s tgt ls rest) (kf : v = 1 → m2 s = some o → WW X q s (pc + 3) ls rest) : WW X q s pc ls ((if v = 1 then .ref b else .null) :: rest) := by
  by_cases e : v = 1
  · rw [if_pos e]; exact ww_ifnull g hdg (kf e (oC_pos e h))
  · rw [if_neg e]; exact ww_ifnullN g hdg ht (kt e (oC_neg e h))
theorem ww_ifnonnull5 (g : Gx X cc) {b : Nat} {v : Int32} {off : Int} {tgt : Nat} {m1 m2 : M α} (hdg : decode cc pc = .ok (.ifnonnull off, 3)) (ht : (pc : Int) + off = (tgt : Int)) (h : oC (v = 1) m1 m2 s = some o) (kt : v = 1 → m1 s = some o → WW X q s tgt ls rest) (kf : ¬ v = 1 → m2 s = some o → WW X q s (pc + 3) ls rest) : WW X q s pc ls ((if v = 1 then .ref b else .null) :: rest) := by
  by_cases e : v = 1
  · rw [if_pos e]; exact ww_ifnonnull g hdg ht (kt e (oC_pos e h))
  · rw [if_neg e]; exact ww_ifnonnullN g hdg (kf e (oC_neg e h))
/-- the answer is a ref -/
theorem ww_aretH (g : Gd X y cc nL ret fr lo own) {rt : FieldType} (hret : ret = some rt) (hrt : (∃ n, rt = .object n) ∨ ∃ t, rt = .array t) {r : Nat} {v : Int32} {o : Int32 × S1} (h : oR v s = some o) (hR : Rt X q o.2 (some (.ref (q.1 r o.1)))) (hdg : decode cc pc = .ok (.areturn, 1)) : WW X q s pc ls [.ref (q.1 r v)] := by
  rw [oR_eq h] at hR
  exact ww_aret g hret hrt (Or.inr ⟨_, rfl⟩) hR hdg
theorem ww_aretX (g : Gd X y cc nL ret fr lo own) {L : List Nat} {q0 : PL} {m : Nat × Nat} {rt : FieldType} (hret : ret = some rt) (hrt : (∃ n, rt = .object n) ∨ ∃ t, rt = .array t) {r : Nat} {v : Int32} {o : (Int32 × (Nat × Nat)) × S1} (h : oR (v, m) s = some o) (hR : RtX X L q0 o.1.2 o.2 (fun q => some (.ref (q.1 r o.1.1)))) (hx0 : Exq (xP X) L q0 q) (hm : Rmq (xP X) q m) (hdg : decode cc pc = .ok (.areturn, 1)) : WW X q s pc ls [.ref (q.1 r v)] := by
  rw [oR_eq h] at hR
  intro H locs hW hS
  obtain ⟨⟨hx, hb⟩, -, hown, hts, hK, -, hr, hlk⟩ := g
  rw [hR]
  exact W.aret hx hb (hr.trans hret) hrt (Or.inr ⟨_, rfl⟩) (fun t ht _ => ⟨q, rfl, hx0, hm, by rw [ht]; exact hW, hS.F ht⟩) hS.2.2 hdg hlk
/-- a number of a constructor's own object that is written once -/
theorem ww_pIF (g : Gd X y cc nL ret fr lo own) {r k : Nat} {C : String} {T : u_T} {ty : Nat → FieldType} (hc : ClF r C T ty) (hp : prs s r i) (hk : k < nfF r) (hl : Fl own index C (T k).2.1 (T k).2.2.1) (hfin : (T k).2.2.2 = true ∧ (xh X).name = "<init>" ∧ C = own ∧ Cond.fieldLink own index C (T k).2.1 (T k).2.2.1 ∈ wA) {f : Nat} (hf : 128 * r + k = f) (ht : tcG f = 0) {x : Int32} (hn : narrow (ty k) (.int x) = .int x) (hfit : fits (ty k) (.int x) = true) (hdg : decode cc pc = .ok (.putfield index, 3))
    {kt : Unit → M α} (h : oB (oPI f i x) kt s = some o) (kk : ∀ s' : S1, s' = sI s f i x → kt () s' = some o → WW X q s' (pc + 3) ls rest) : WW X q s pc ls (.int x :: .ref (q.1 r i) :: rest) := by
  subst hf
  intro H locs hW hS
  obtain ⟨d1, d2, d3⟩ := hW.2.2.1 r i hp
  unfold cellAt at d1
  rw [if_pos hc.1] at d1
  refine rw_put g (ls := ls) (rest := rest) (v := .int x) hc d1 hk hl (Or.inr hfin) hn hfit d2 hS hdg fun H1 locs1 e z zt oq hS1 => ?_
  have hk2 := Nat.lt_of_lt_of_le hk (nfF_le r)
  have e2 : fv q (sI s (128 * r + k) i x) r i k = .int x := by unfold fv; rw [ht]; simp [gI_sI]
  exact kk _ rfl h H1 locs1 (hW.putI hp hc.1 hk2 (by rw [e2]; exact e) z zt oq) hS1
end RU
theorem Wd.putBf {P : PP} {q : PL} {s : S1} {H H1 : Heap} {r : Nat} {i : Int32} (f : Int32 → Int64) (h : Wd P q s H) (hp : prs s r i) (hr : rkF r = 4)
    (e : H1[q.1 r i]? = some (arrV (P.2.2.1 r) (lnS s r i) (fun t => .long (f (Int32.ofNat t))))) (z : H1.size = H.size) (oq : ∀ a : Nat, a ≠ q.1 r i → H1[a]? = H[a]?) : Wd P q (sBf s r i f) H1 := by
  obtain ⟨h1, h2, h3, h4, h5⟩ := h
  have hn0 : rkF r ≠ 0 := by omega
  have hcell := (h3 r i hp).1
  unfold cellAt at hcell
  rw [if_neg hn0] at hcell
  refine ⟨z.trans h1, (tot_put hcell e (by rw [arrV_size, arrV_size]) z oq).trans h2, fun r' i' hp' => ?_, fun r1 i1 r2 i2 a b => h4 r1 i1 r2 i2 a b, h5⟩
  have hp2 : prs s r' i' := hp'
  obtain ⟨c1, c2, c3⟩ := h3 r' i' hp2
  refine ⟨?_, c2, c3⟩
  by_cases hq : r' = r ∧ i' = i
  · obtain ⟨rfl, rfl⟩ := hq
    unfold cellAt
    rw [if_neg hn0, e, avP_ne (by omega)]
    refine congrArg some (arrV_congr fun t ht => ?_)
    unfold av
    rw [hr]
    show Value.long _ = .long (gB (sBf s r' i' f) r' i' _)
    rw [gB_sBf, if_pos ⟨rfl, rfl⟩]
  · have hne : q.1 r' i' ≠ q.1 r i := fun z => hq (h4 _ _ _ _ hp2 hp z)
    unfold cellAt at c1 ⊢
    by_cases h0 : rkF r' = 0
    · rw [if_pos h0] at c1 ⊢
      exact c1.kept (oq _ hne)
    · rw [if_neg h0] at c1 ⊢
      rw [oq _ hne, c1]
      refine congrArg some (arrV_congr fun t ht => ?_)
      unfold avP
      by_cases h6 : rkF r' = 6
      · rw [if_pos h6, if_pos h6]
      rw [if_neg h6, if_neg h6]
      unfold av
      split
      all_goals first | rfl | (rw [gB_sBf, if_neg (fun w => hq ⟨w.1, w.2⟩)])
theorem oCL_in {α : Type} {s : S1} {o : α × S1} {ra rb : Nat} {ia na ib nb sp dp n : Int32} {kt : Unit → M α} (h : oB (oCL ra ia na rb ib nb sp dp n) kt s = some o) : (0 ≤ sp ∧ 0 ≤ dp ∧ 0 ≤ n ∧ sp ≤ na ∧ n ≤ na - sp ∧ dp ≤ nb ∧ n ≤ nb - dp) ∧ kt () (sBf s rb ib (cpL s ra ia rb ib sp dp n)) = some o := by
  unfold oB oCL at h
  by_cases hj : 0 ≤ sp ∧ 0 ≤ dp ∧ 0 ≤ n ∧ sp ≤ na ∧ n ≤ na - sp ∧ dp ≤ nb ∧ n ≤ nb - dp
  · rw [if_pos hj] at h
    exact ⟨hj, h⟩
  · rw [if_neg hj] at h
    cases h
theorem ww_cl {X : Cx} {q : PL} {s : S1} {y : MethodName} {cc : ByteArray} {nL : Nat} {ret : Option FieldType} {fr lo : Nat} {own : String} {pc : Nat} {ls : Array Slot} {rest : List Value} {index : Nat} {α : Type} {o : α × S1} (g : Gd X y cc nL ret fr lo own) {ra rb : Nat} {ia na ib nb sp dp n : Int32} (hpa : prs s ra ia) (hpb : prs s rb ib) (ha : rkF ra = 4) (hb' : rkF rb = 4) (hna : na.toNatClampNeg = lnS s ra ia) (hnb : nb.toNatClampNeg = lnS s rb ib)
    (k1 : Cond.methodLink own index arraycopyName ∈ wA) (k2 : Cond.native arraycopyName ∈ wA) (k3 : Cond.static arraycopyName ∈ wA) (k4 : Cond.initialized "java/lang/System" ∈ wA) (hR : 1 ≤ fr ∧ 26 ≤ lo) (hsz : ls.size = nL) (hrest : (rest.map fun v => v.category).sum ≤ 8) (hdg : decode cc pc = .ok (.invokestatic index, 3))
    {kt : Unit → M α} (h : oB (oCL ra ia na rb ib nb sp dp n) kt s = some o) (kk : ∀ s' : S1, s' = sBf s rb ib (cpL s ra ia rb ib sp dp n) → kt () s' = some o → WW X q s' (pc + 3) ls rest) : WW X q s pc ls (.int n :: .int dp :: .ref (q.1 rb ib) :: .int sp :: .ref (q.1 ra ia) :: rest) := by
  intro H locs hW hS
  obtain ⟨⟨hx, hb⟩, hml, hown, hts, hK, ⟨hR1, hR2, -, -⟩, -⟩ := g
  obtain ⟨hj, h⟩ := oCL_in h
  obtain ⟨g4, g5⟩ := cp_num hj
  rw [hna] at g4
  rw [hnb] at g5
  have l1 := (hW.2.2.1 ra ia hpa).2.2
  have l2 := (hW.2.2.1 rb ib hpb).2.2
  have t1 := (hK.2.1 ra).2.2.2.1 ha
  have t2 := (hK.2.1 rb).2.2.2.1 hb'
  have c0 := ar_cell hW hpa (by omega) (by omega)
  have c1 := ar_cell hW hpb (by omega) (by omega)
  have f0 : av q s ra ia = fun j => .long (gB s ra ia (Int32.ofNat j)) := by
    funext j
    unfold av
    rw [ha]
    rfl
  have f1 : av q s rb ib = fun j => .long (gB s rb ib (Int32.ofNat j)) := by
    funext j
    unfold av
    rw [hb']
    rfl
  rw [f0] at c0
  rw [f1] at c1
  refine w_copy (fun x : Int64 => Value.long x) hx hb (hml.trans hsz.symm) hown (hts _ (List.mem_cons_of_mem _ k1)) (hts _ (List.mem_cons_of_mem _ k2)) (hts _ (List.mem_cons_of_mem _ k3)) (hts _ (List.mem_cons_of_mem _ k4)) c0 c1 t1 t2 rfl (Int32.not_lt.mpr hj.1) (Int32.not_lt.mpr hj.2.1) (Int32.not_lt.mpr hj.2.2.1) g4 g5 (fun i _ => rfl) (fun _ => trivial) (by rw [hR1]; exact hR.1) ?_ hdg fun H1 L e z oq hL => ?_
  · rw [hR2]
    have : nativeFrameWords "java/lang/System" "arraycopy" 5 = 7 := by decide +kernel
    rw [this]
    omega
  · refine kk _ rfl h H1 _ (hW.putBf (cpL s ra ia rb ib sp dp n) hpb hb' ?_ z oq) ?_
    · rw [e]
      refine congrArg some (arrV_congr fun t ht => ?_)
      exact congrArg Value.long (cp_same (gB s ra ia) (gB s rb ib) hj.1 hj.2.1 hj.2.2.1 g5 (by omega) l2 ht)
    · refine ⟨by rw [z]; exact hS.1, fun a u1 u2 => ?_, fun a ha2 => ?_⟩
      · rw [oq a (fun w => u2 (by rw [w]; exact (hW.2.2.1 rb ib hpb).2.1))]
        exact hS.2.1 a u1 u2
      · rcases List.mem_append.mp ha2 with w | w
        · exact hS.2.2 a w
        · rw [hL a w]
          exact (hW.2.2.1 rb ib hpb).2.1
