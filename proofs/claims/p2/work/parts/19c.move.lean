/-! A row of bytes that was made finds its place; so does a coroutine. -/
def qD (P : PP) (q : PL) (t : Nat) (i : Int32) : PL := (fun r x => if r = t ∧ x = i then P.2.2.2.1 else q.1 r x, q.2)
def qM (q : PL) (t : Nat) (i : Int32) (a : Nat) : PL := (fun r x => if r = t ∧ x = i then a else q.1 r x, q.2)
theorem qD_at (P : PP) (q : PL) (t : Nat) (i : Int32) : (qD P q t i).1 t i = P.2.2.2.1 := by simp [qD]
theorem qD_ne {P : PP} {q : PL} {t r : Nat} {i x : Int32} (h : ¬ (r = t ∧ x = i)) : (qD P q t i).1 r x = q.1 r x := by simp [qD, h]
theorem qM_at (q : PL) (t : Nat) (i : Int32) (a : Nat) : (qM q t i a).1 t i = a := by simp [qM]
theorem qM_ne {q : PL} {t r : Nat} {i x : Int32} {a : Nat} (h : ¬ (r = t ∧ x = i)) : (qM q t i a).1 r x = q.1 r x := by simp [qM, h]
theorem sm_drop {P : PP} {q : PL} {s : S1} {t : Nat} {i : Int32} : Sm t i q (qD P q t i) s (sI s (128 * t + 127) i 0) := by
  refine ⟨fun r x h => qD_ne h, fun r k x hk h => ⟨?_, rfl⟩, fun r x y h => ⟨rfl, rfl⟩⟩
  exact gI_ne fun z => h ⟨by omega, z.2⟩
theorem kd_drop {s : S1} {t : Nat} {i : Int32} (ht : ¬ (148 ≤ t ∧ t ≤ 152)) (h : Kd s) : Kd (sI s (128 * t + 127) i 0) := by
  have e : ∀ r x, 148 ≤ r ∧ r ≤ 152 → (prs (sI s (128 * t + 127) i 0) r x ↔ prs s r x) := fun r x hr => by
    unfold prs
    rw [gI_ne fun z => ht (by have := z.1; omega)]
  intro c hc
  obtain ⟨a, b, d, f⟩ := h c ((e _ _ (by decide)).mp hc)
  exact ⟨(e _ _ (by decide)).mpr a, (e _ _ (by decide)).mpr b, (e _ _ (by decide)).mpr d, fun j hj => (e _ _ (by decide)).mpr (f j hj)⟩
theorem Wd.dropN {P : PP} {q : PL} {s : S1} {H : Heap} {t : Nat} {i : Int32} (h : Wd P q s H) (hd : dyF t = true) (hh : hoF t = [] ∧ hrF t = []) (ht : ¬ (148 ≤ t ∧ t ≤ 152)) : Wd P (qD P q t i) (sI s (128 * t + 127) i 0) H := by
  refine h.drop sm_drop rfl (fun r x hp _ => nrf0 hh.1 hh.2 r x hp) (fun z => ?_) (by rw [qD_at]; exact Nat.le_refl _) (kd_drop ht h.2.2.2.2.2.2.2.2) fun hk x => h.2.2.2.2.2.2.1 t i x hk
  have := z.1 hd
  rw [gI_sI, if_pos ⟨rfl, rfl⟩] at this
  exact absurd this (by decide)
def mvB (s : S1) (t : Nat) (i : Int32) : S1 := (fun f x => if f = 128 * t + 127 ∧ x = i then 1 else if f = 128 * t + 126 ∧ x = i then gI s 19838 0 else if f = 19839 ∧ x = 0 then 0 else s.1 f x, s.2.1, fun r x y => if r = t ∧ x = i then gA s 154 0 y else s.2.2.1 r x y, s.2.2.2)
theorem gI_mvB (s : S1) (t f : Nat) (i x : Int32) : gI (mvB s t i) f x = if f = 128 * t + 127 ∧ x = i then 1 else if f = 128 * t + 126 ∧ x = i then gI s 19838 0 else if f = 19839 ∧ x = 0 then 0 else gI s f x := rfl
theorem gL_mvB (s : S1) (t f : Nat) (i x : Int32) : gL (mvB s t i) f x = gL s f x := rfl
theorem gA_mvB (s : S1) (t r : Nat) (i x y : Int32) : gA (mvB s t i) r x y = if r = t ∧ x = i then gA s 154 0 y else gA s r x y := rfl
theorem gB_mvB (s : S1) (t r : Nat) (i x y : Int32) : gB (mvB s t i) r x y = gB s r x y := rfl
section MV
variable {X : Cx} {q : PL} {s : S1} {y : MethodName} {cc : ByteArray} {nL : Nat} {ret : Option FieldType} {fr lo : Nat} {own : String} {pc : Nat} {ls : Array Slot} {rest : List Value} {α : Type} {o : α × S1} {L : List Nat} {m : Nat × Nat} {t : Nat} {i : Int32}
/-- the new row of bytes goes into a field -/
theorem ww_mvB (g : Gd X y cc nL ret fr lo own) {r0 k index : Nat} {C : String} {T : u_T} {ty : Nat → FieldType} (hc : ClF r0 C T ty) (hp0 : prs s r0 i) (hpB : prs s 154 0) (hk : k < nfF r0) (hfl : Fl own index C (T k).2.1 (T k).2.2.1) (hfin : (T k).2.2.2 = false) (hty : ty k = .array .byte) (ht : t ≠ 154 ∧ ¬ (148 ≤ t ∧ t ≤ 152) ∧ rkF t = 2 ∧ lnF t = 0) (hi : i.toNatClampNeg < cnF t)
    (hf : (tcG (128 * r0 + k) = 5 ∨ tcG (128 * r0 + k) = 2) ∧ tgG (128 * r0 + k) = t ∧ r0 ≠ t ∧ r0 ≠ 154) (hu : ∀ k', k' < nfF r0 → k' ≠ k → tgG (128 * r0 + k') ≠ t ∧ tgG (128 * r0 + k') ≠ 154) (hh1 : hoF t = [128 * r0 + k] ∧ hrF t = []) (hL : t ∈ L ∧ 154 ∈ L) (hm : Rmq (xP X) q m) (hdg : decode cc pc = .ok (.putfield index, 3))
    {kt : Unit → M α} (h : oB (oS fun s => mvB s t i) kt s = some o) (kk : ∀ (q' : PL) (s' : S1), s' = mvB s t i → Exq (xP X) L q q' → Rmq (xP X) q' m → prs s' t i → kt () s' = some o → WW X q' s' (pc + 3) ls rest) : WW X q s pc ls (.ref (q.1 154 0) :: .ref (q.1 r0 i) :: rest) := by
  intro H locs hW hS
  have h : kt () (mvB s t i) = some o := h
  have hcls : (xP X).2.2.1 154 = (xP X).2.2.1 t := by
    have hK := g.2.2.2.2.1
    have a1 := (hK.2.2.2.2 154 (by decide) (by decide)).2
    have a2 := (hK.2.2.2.2 t (by omega) (by omega)).2
    have e1 : atF t = .byte := by
      unfold atF
      rw [ht.2.2.1]
      rfl
    rw [e1] at a2
    have a1 : (xs X).vm.findClass ("[" ++ FieldType.byte.toString) = some _ := a1
    have a2 : (xs X).vm.findClass ("[" ++ FieldType.byte.toString) = some _ := a2
    exact Option.some.inj (a1.symm.trans a2)
  have hk1 : k < 126 := by have := nfF_le r0; omega
  obtain ⟨c1, c2, c3⟩ := hW.2.2.1 154 0 hpB
  have c4 := hW.fresh 154 0 hpB
  unfold cellAt at c1
  rw [if_neg (by decide), avP_ne (by decide)] at c1
  obtain ⟨d1, d2, d3⟩ := hW.2.2.1 r0 i hp0
  unfold cellAt at d1
  rw [if_pos hc.1] at d1
  have hne : q.1 r0 i ≠ q.1 154 0 := fun z => hf.2.2.2 (hW.2.2.2.1 _ _ _ _ hp0 hpB z).1
  refine rw_put g (ls := ls) (rest := rest) (v := .ref (q.1 154 0)) hc d1 hk hfl (Or.inl hfin) (by rw [hty]; rfl) (by rw [hty]; rfl) d2 hS hdg fun H2 locs2 b1 b2 b3 b4 hS2 => ?_
  have hD := hW.dropN (t := 154) (i := 0) rfl ⟨rfl, rfl⟩ (by decide)
  generalize hq1 : qD (xP X) q 154 0 = q1 at hD
  generalize hs1 : sI s (128 * 154 + 127) 0 0 = s1 at hD
  have hsD : Sm 154 0 q q1 s s1 := by rw [← hq1, ← hs1]; exact sm_drop
  have hsm : Sm t i q1 (qM q1 t i (q.1 154 0)) s1 (mvB s t i) := by
    refine ⟨fun r x h => qM_ne h, fun r k x hk h => ⟨?_, by rw [← hs1]; rfl⟩, fun r x y h => ⟨by rw [gA_mvB, if_neg h, ← hs1]; rfl, by rw [← hs1]; rfl⟩⟩
    rw [gI_mvB, if_neg fun z => h ⟨by omega, z.2⟩, if_neg fun z => h ⟨by omega, z.2⟩, ← hs1, gI_sI]
  have hpi : 0 ≤ i := hp0.2.1
  have hp : prs (mvB s t i) t i := ⟨fun _ => by rw [gI_mvB, if_pos ⟨rfl, rfl⟩], hpi, hi⟩
  have hne0 : ¬ (r0 = t ∧ i = i) := fun z => hf.2.2.1 z.1
  have hne1 : ¬ (r0 = 154 ∧ i = 0) := fun z => hf.2.2.2 z.1
  have npB : ¬ prs s1 154 0 := fun z => by
    have := z.1 rfl
    rw [← hs1, gI_sI, if_pos ⟨rfl, rfl⟩] at this
    exact absurd this (by decide)
  have hup : ∀ r x, prs s1 r x → ¬ (r = 154 ∧ x = 0) ∧ prs s r x := fun r x hx => by
    have n1 : ¬ (r = 154 ∧ x = 0) := fun z => npB (z.1 ▸ z.2 ▸ hx)
    exact ⟨n1, (hsD.p n1).mp hx⟩
  have hlS : lnS (mvB s t i) t i = lnS s 154 0 := by
    unfold lnS
    rw [if_pos ht.2.2.2, if_pos (by decide), gI_mvB, if_neg (by omega), if_pos ⟨rfl, rfl⟩]
  have hW1 : Wd (xP X) (qM q1 t i (q.1 154 0)) (mvB s t i) H2 := by
    have hq12 : q1.2 = q.2 := by rw [← hq1]; rfl
    refine hD.mk hsm (by show H2.size = q1.2.1; rw [hq12, b2]; exact hW.1) (by show tot H2 = q1.2.2; rw [hq12, b3]; exact hW.2.1) ⟨by show q1.2.1 ≤ _; rw [hq12]; exact hW.2.2.2.2.1, by show q1.2.2 ≤ _; rw [hq12]; exact hW.2.2.2.2.2.1⟩ (fun r x => r = r0 ∧ x = i) (fun r x hp hne ho => ⟨?_, ?_⟩) (fun r x hpx hne ho => ?_) ⟨?_, by rw [qM_at]; exact c2, by rw [hlS]; exact c3, fun r x hp _ => ?_⟩ hp ?_ ?_
    · obtain ⟨n1, hp⟩ := hup r x hp
      rw [hsD.1 _ _ n1]
      exact b4 _ fun z => ho (hW.2.2.2.1 _ _ _ _ hp hp0 z)
    · exact nrf1 hh1.1 hh1.2 (by rcases hf.1 with z | z <;> rw [z] <;> decide) hk1 r x hp ho
    · obtain ⟨rfl, rfl⟩ := ho
      unfold cellAt
      rw [if_pos hc.1, hsm.1 _ _ hne0, hsD.1 _ _ hne1]
      refine b1.to fun k' hk' => ?_
      by_cases e : k' = k
      · subst e
        have fl : gI (mvB s t x) (128 * t + 127) x = 1 := by rw [gI_mvB, if_pos ⟨rfl, rfl⟩]
        have e5 : fv (qM q1 t x (q.1 154 0)) (mvB s t x) r x k' = .ref (q.1 154 0) := by
          unfold fv
          rcases hf.1 with z | z
          · rw [z, hf.2.1]
            show (if gI (mvB s t x) (128 * t + 127) x = 1 then Value.ref ((qM q1 t x (q.1 154 0)).1 t x) else .null) = _
            rw [if_pos fl, qM_at]
          · rw [z, hf.2.1]
            show Value.ref ((qM q1 t x (q.1 154 0)).1 t x) = _
            rw [qM_at]
        rw [e5]
        simp [updV]
      · simp only [updV, if_neg e]
        have hk3 : k' < 128 := by have := nfF_le r; omega
        rw [hsm.fk hne0 hk3 (hu k' hk' e).1, hsD.fk hne1 hk3 (hu k' hk' e).2]
    · unfold cellAt
      rw [if_neg (by omega), avP_ne (by omega), qM_at, hlS, b4 _ (Ne.symm hne), c1]
      rw [hcls]
      refine congrArg some (arrV_congr fun x hx => ?_)
      rw [av_i (Or.inr (Or.inl (by decide))), av_i (Or.inr (Or.inl ht.2.2.1)), gA_mvB, if_pos ⟨rfl, rfl⟩]
    · obtain ⟨n1, hp⟩ := hup r x hp
      rw [qM_at, hsD.1 _ _ n1]
      exact fun z => n1 (hW.2.2.2.1 _ _ _ _ hp hpB z)
    · exact kd_nw hsm (fun z => ht.2.1 (by omega)) hp hD.2.2.2.2.2.2.2.2
    · intro _ x
      rw [gA_mvB, if_pos ⟨rfl, rfl⟩]
      exact hW.2.2.2.2.2.2.1 154 0 x rfl
  have hE : Exq (xP X) L q (qM q1 t i (q.1 154 0)) := fun r x hr _ => by
    rw [hsm.1 r x fun z => hr (by rw [z.1]; exact hL.1), hsD.1 r x fun z => hr (by rw [z.1]; exact hL.2)]
  have hm' : Rmq (xP X) (qM q1 t i (q.1 154 0)) m := by
    rw [← hq1]
    exact hm
  exact kk _ _ rfl hE hm' hp h H2 locs2 hW1 hS2
end MV
