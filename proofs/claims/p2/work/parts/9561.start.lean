theorem ks_0 : Cond.classLink R_law 8 R_LM ∈ wA := kinm (show _ ∈ tables_1 from (List.mem_append_left _ (List.mem_of_getElem? (l := tables_1_1) (i := 35) (by decide +kernel)))) (by decide +kernel)
theorem ks_1 : Cond.initialized R_LM ∈ wA := kinm (show _ ∈ tables_1 from (List.mem_append_left _ (List.mem_of_getElem? (l := tables_1_1) (i := 1) (by decide +kernel)))) (by decide +kernel)
theorem ks_2 : Cond.methodLink R_law 55 y_LM_init ∈ wA := kinm (show _ ∈ tables_1 from (List.mem_append_left _ (List.mem_of_getElem? (l := tables_1_1) (i := 37) (by decide +kernel)))) (by decide +kernel)
theorem ks_3 : Cond.classLink R_law 56 R_Mo ∈ wA := kinm (show _ ∈ tables_1 from (List.mem_append_right _ (List.mem_append_right _ (List.mem_append_right _ (List.mem_append_right _ (List.mem_append_right _ (List.mem_append_right _ (List.mem_append_right _ (List.mem_append_right _ (List.mem_append_left _ (List.mem_of_getElem? (l := tables_1_9) (i := 109) (by decide +kernel)))))))))))) (by decide +kernel)
theorem ks_4 : Cond.initialized R_Mo ∈ wA := kinm (show _ ∈ tables_1 from (List.mem_append_left _ (List.mem_of_getElem? (l := tables_1_1) (i := 9) (by decide +kernel)))) (by decide +kernel)
theorem ks_5 : Cond.methodLink R_law 58 y_Mo_init ∈ wA := kinm (show _ ∈ tables_1 from (List.mem_append_right _ (List.mem_append_right _ (List.mem_append_right _ (List.mem_append_right _ (List.mem_append_right _ (List.mem_append_right _ (List.mem_append_right _ (List.mem_append_right _ (List.mem_append_left _ (List.mem_of_getElem? (l := tables_1_9) (i := 111) (by decide +kernel)))))))))))) (by decide +kernel)
theorem ks_6 : Cond.arrayClass .long ∈ wA := kinm (show _ ∈ tables_1 from (List.mem_append_left _ (List.mem_of_getElem? (l := tables_1_1) (i := 122) (by decide +kernel)))) (by decide +kernel)
def lw_P (b : Addr) (xs : List Int32) (args : Array Value) (s : State) : Prop := args = #[.ref b] ∧ s.IntsAt b xs ∧ xs.length ≤ 3072 ∧ (Jvm.Cond.and given_1 narrow_1).before args s = true
def lw_Q (_ : Array Value) (s : State) (o : Outcome) (t : State) : Prop := o = .returned (some (.int 1)) ∧ Framed s o t [] 601024 7293034
def lw_Z (below : List Frame) (a : Array Value) (s : State) : State → Prop := fun t => ∃ o, t.status = .running ∧ Ended t below o ∧ lw_Q a s o t
/-- the law's own end, with 1 on the stack, nothing written that was there before, its room as the claim has it -/
theorem lw_ret {p : Program} {l : Launch} {e : Env} {s : State} {m : MethodId} {below : List Frame} {meth : Method} {c : Code} {b : Nat} (hx : p.tables.exec = Jvm.exec) (hb : c.code = code) (hr : meth.sig.returnType = ret) (hlocks : meth.locks = false) {pc : Nat} {H : Heap} {ls : Array Slot} (hdg : decode code pc = .ok (.ireturn, 1)) : W p l e room_1 s m #[Value.ref b] below meth c H [] 601024 7293034 (lw_Z below #[Value.ref b] s) (F0 m pc ls [.int 1]) := by
  intro T hT X
  obtain ⟨fs, hret, hrun, hended, hW, hframe⟩ := X.leave (v := some (.int 1)) (hlocks := hlocks) (fun h => by rw [hr] at h; cases h)
  have hmeth' : T.vm.method? m = some meth := X.method'
  refine ⟨T.setFrames fs, ?_, .returned (some (.int 1)), hrun, hended, rfl, ⟨_, rfl⟩, hW, hframe⟩
  jvm_step X.here [X.here.top, hx, hb, hdg, hmeth', hr, ret, narrow_b1]
  (try refine ⟨rfl, ?_⟩); (try refine ⟨rfl, ?_⟩)
  first | (intro acts; rw [hret _ acts rfl rfl rfl]) | rw [hret _ _ rfl rfl rfl]
  exact Steps.refl _
/-- what holds at the law's entry: the machine, the code, the tables' words (any of lw_tbl by 'hts w (by decide +kernel)'), the script of L ints xs at the cell b, what the Statement gives of the start (any of its parts by flat_of_before) -/
def lw_At (p : Program) (s : State) (m : MethodId) (meth : Method) (c : Code) (b L : Nat) (xs : Nat → Int32) : Prop :=
  p.tables.exec = Jvm.exec ∧ c.code = code ∧ meth.sig.returnType = ret ∧ c.maxLocals = 8 ∧ s.vm.findClass R_law = some m.cls ∧ (∀ w ∈ lw_tbl, w.before #[Value.ref b] s = true) ∧ va_X b L xs s s.heap ∧ b < s.heap.size ∧ meth.locks = false ∧ (Jvm.Cond.and given_1 narrow_1).before #[Value.ref b] s = true
set_option maxHeartbeats 4000000 in
set_option maxRecDepth 100000 in
theorem whole_start {p : Program} {e : Env} {s : State} {m : MethodId} {below : List Frame} {meth : Method} {c : Code} (l : Launch) (hst : l.stackTraces = false) {b L : Nat} {xs : Nat → Int32} (hL : L ≤ 3072) (C0 : lw_At p s m meth c b L xs) : W p l e room_1 s m #[Value.ref b] below meth c s.heap [] 0 0 (lw_Z below #[Value.ref b] s) (entryFrame m ([Value.ref b] : List Value).toArray 8) := by
  obtain ⟨hx, hb, hr, hml, hown, hts0, hX, hbl, hlocks, hgv⟩ := C0
  have hts : ∀ w ∈ (Cond.tt :: wA), w.before #[Value.ref b] s = true := fun w h => (List.mem_cons.mp h).elim (fun e => by rw [e]; rfl) (fun h => hts0 w (List.mem_filter.mp h).1)
  have htb : ∀ w ∈ tables_1, w.before #[Value.ref b] s = true := fun w h => hts0 w (List.mem_append_right _ h)
  have hgl : ∀ w ∈ xGiven, w.before #[Value.ref b] s = true := flat_of_before _ hgv
  obtain ⟨P, hK, hP1, hP30, hP31, hPc, hPs⟩ := kk_of hts htb hgl
  have hZ : xZ (fun a => P.1 ≤ a) s s.heap := xZ_of htb hgl (fun a h => by show ¬ P.1 ≤ a; rw [hP1]; exact Nat.not_le.mpr h)
  obtain ⟨X, hXe⟩ : ∃ X : Cx, X = ((p, l, e, room_1, s, m), (#[Value.ref b], below, meth, c), lw_Z below #[Value.ref b] s, P) := ⟨_, rfl⟩
  have g : G0 X Cond.tt code 8 2048 84000 R_law := by
    subst hXe
    exact ⟨⟨hx, hb⟩, hml, hown, hts, hK, ⟨rfl, rfl, by show 601024 = P.2.2.2.1 - s.heap.size; omega, by show 7293034 = P.2.2.2.2 - tot s.heap; omega⟩, hZ, n3_of hgl⟩
  have gn : Gn X Cond.tt code 8 2048 84000 R_law := ⟨g.1, g.2.1, g.2.2.1, g.2.2.2.1, g.2.2.2.2.1, g.2.2.2.2.2.1⟩
  have A : LA X b L xs := by
    refine ⟨g, ?_, ?_, ?_, ?_, hL, ?_⟩
    · subst hXe; exact hst
    · subst hXe; exact hX
    · subst hXe; exact hbl
    · subst hXe; exact hP1
    · subst hXe
      intro q s' ls H locs hW hS
      refine va_forget (fun z hz => by have := hS.2.2 z hz; rw [← hP1]; exact this) ?_
      refine W.widen (k := 601024) (n := 7293034) (by show P.2.2.2.1 - s.heap.size ≤ 601024; omega) (by show P.2.2.2.2 - tot s.heap ≤ 7293034; omega) ?_
      exact lw_ret hx hb hr hlocks d_law_law_508
  have hLI := loop_LI A 512 (Nat.le_refl _)
  have hl := lv_entry ([.ref b]) (n := 8) (Nat.le_of_ble_eq_true rfl)
  rw [lg_entry_eq]
  generalize (lg_sl ([.ref b]) ++ List.replicate (8 - (lg_sl ([.ref b])).length) Slot.unset).toArray = ls at hl ⊢
  have hl : lv_has ls 8 [(0, .ref b)] := hl
  have hW0 : Wnn P ((fun _ _ => P.2.2.2.1), s.heap.size, tot s.heap) 1 s.heap := by
    have no : ∀ r i, ¬ pNn 1 r i := fun r i p => by
      have := p.1.pr
      have := p.2
      omega
    exact ⟨rfl, rfl, fun r i p => absurd p (no r i), fun r i r' i' p => absurd p (no r i), by rw [hP1]; exact Nat.le_refl _, fun r i _ _ z => absurd z (Nat.lt_irrefl _)⟩
  have hm : Rnn (xP X) ((fun _ _ => P.2.2.2.1), s.heap.size, tot s.heap) (601024, 7293034) := by
    subst hXe
    exact ⟨by show s.heap.size + 601024 ≤ P.2.2.2.1; omega, by show tot s.heap + 7293034 ≤ P.2.2.2.2; omega⟩
  have walk : WN X ((fun _ _ => P.2.2.2.1), s.heap.size, tot s.heap) 1 0 ls [] := by
    generalize ((fun _ _ => P.2.2.2.1, s.heap.size, tot s.heap) : PL) = q0 at hm ⊢
    refine nn_new (pc := 0) (r := 100) (i := 0) (m := (601023, 7293027)) gn cl_LM (by unfold dvC; decide +kernel) ⟨rfl, by decide, by decide⟩ (by decide +kernel) (hm.le (by dsimp only; omega) (by have z : nfF 100 = 7 := rfl; dsimp only; omega)) ks_0 xi_LM ks_1 d_law_law_0 fun q1 a100 hk e100 hm => ?_
    refine nn_dup (pc := 3) g.1 d_law_law_3 rfl ?_
    refine nn_call (pc := 4) (rest := [.ref a100]) (m := (600980, 6760539)) (As := []) gn ci_LM_init (Or.inl ks_2) (cn_LM_100 (hm.le (by dsimp only; omega) (by dsimp only; omega)) e100) (hm.le (by dsimp only; omega) (by dsimp only; omega)) ⟨by decide, by decide⟩ rfl hl.1 (Nat.le_of_ble_eq_true rfl) d_law_law_4 rfl fun q2 hk hm => ?_
    have e100 : q2.1 100 0 = a100 := (hk 100 0 ⟨⟨rfl, by decide, by decide⟩, by decide +kernel⟩).trans e100
    refine nn_astore_n (pc := 7) (j := 1) g.1 (lv' := [(1, .ref a100), (0, .ref b)]) d_law_law_7 rfl hl (by decide) rfl fun ls hl => ?_
    refine nn_new (pc := 8) (r := 0) (i := 0) (m := (600979, 6760439)) gn cl_Mo (by unfold dvC; decide +kernel) ⟨rfl, by decide, by decide⟩ (by decide +kernel) (hm.le (by dsimp only; omega) (by have z : nfF 0 = 100 := rfl; dsimp only; omega)) ks_3 xi_Mo ks_4 d_law_law_8 fun q3 a0 hk e0 hm => ?_
    have e100 : q3.1 100 0 = a100 := (hk 100 0 ⟨⟨rfl, by decide, by decide⟩, by decide +kernel⟩).trans e100
    refine nn_dup (pc := 11) g.1 d_law_law_11 rfl ?_
    refine nn_call (pc := 12) (rest := [.ref a0]) (m := (600192, 5294406)) (As := []) gn ci_Mo_init (Or.inl ks_5) (cn_Mo_0 (hm.le (by dsimp only; omega) (by dsimp only; omega)) e0) (hm.le (by dsimp only; omega) (by dsimp only; omega)) ⟨by decide, by decide⟩ rfl hl.1 (Nat.le_of_ble_eq_true rfl) d_law_law_12 rfl fun q4 hk hm => ?_
    have e100 : q4.1 100 0 = a100 := (hk 100 0 ⟨⟨rfl, by decide, by decide⟩, by decide +kernel⟩).trans e100
    have e0 : q4.1 0 0 = a0 := (hk 0 0 ⟨⟨rfl, by decide, by decide⟩, by decide +kernel⟩).trans e0
    refine nn_astore_n (pc := 15) (j := 2) g.1 (lv' := [(2, .ref a0), (1, .ref a100), (0, .ref b)]) d_law_law_15 rfl hl (by decide) rfl fun ls hl => ?_
    refine nn_iconst (pc := 16) g.1 (v := 1) d_law_law_16 (by decide) ?_
    refine nn_arr (pc := 17) (r := 155) (i := 0) (N := 1) (at0 := .long) (m := (600191, 5294405)) gn rfl (by decide) ⟨rfl, by decide, by decide⟩ (by decide +kernel) (by decide) rfl (by decide) (by decide) (hm.le (by dsimp only; omega) (by dsimp only; omega)) ks_6 d_law_law_17 fun q5 a155 hk e155 hm => ?_
    have e100 : q5.1 100 0 = a100 := (hk 100 0 ⟨⟨rfl, by decide, by decide⟩, by decide +kernel⟩).trans e100
    have e0 : q5.1 0 0 = a0 := (hk 0 0 ⟨⟨rfl, by decide, by decide⟩, by decide +kernel⟩).trans e0
    refine nn_astore_n (pc := 19) (j := 3) g.1 (lv' := [(3, .ref a155), (2, .ref a0), (1, .ref a100), (0, .ref b)]) d_law_law_19 rfl hl (by decide) rfl fun ls hl => ?_
    have m1 : q5.2.1 + 600191 ≤ (xP X).2.2.2.1 := hm.1
    have m2 : q5.2.2 + 5294405 ≤ (xP X).2.2.2.2 := hm.2
    have tw : WW X q5 S0 20 ls [] := by
      refine ww_iconst (pc := 20) g.1 (v := 0) d_law_law_20 (by decide) ?_
      refine ww_istore (pc := 21) (i := 4) g.1 (lv' := [(4, .int 0), (3, .ref a155), (2, .ref a0), (1, .ref a100), (0, .ref b)]) d_law_law_21 hl (by decide) rfl fun ls hl => ?_
      refine hLI q5 S0 (71751, 2605202) (518, 1802560) ls ⟨jz_S0 (by decide) (by decide) (by decide) (by decide), rfl⟩ ⟨by dsimp only; omega, by dsimp only; omega⟩ ?_
      rw [e155, e0, e100]
      exact hl
    exact fun H locs hW hS => tw H locs (wn_wd hW (by omega) (by omega)) hS
  have z := walk s.heap [] (by subst hXe; exact hW0) (by subst hXe; exact va_S.rf)
  subst hXe
  exact w_tight (by omega) (by omega) z
