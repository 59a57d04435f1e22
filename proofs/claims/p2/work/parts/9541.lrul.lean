/-! The law: what it stands on, its rows. -/
def LA (X : Cx) (b L : Nat) (f : Nat → Int32) : Prop := G0 X Cond.tt code 8 2048 84000 R_law ∧ (xl X).stackTraces = false ∧ va_X b L f (xs X) (xs X).heap ∧ b < (xs X).heap.size ∧ (xP X).1 = (xs X).heap.size ∧ L ≤ 3072 ∧ ∀ (q : PL) (s : S1) (ls : Array Slot), WW X q s 508 ls [.int 1]
def Lr (X : Cx) (q : PL) (n m : Nat × Nat) (k : Nat) : Prop := q.2.1 + n.1 + m.1 + k ≤ (xP X).2.2.2.1 ∧ q.2.2 + n.2 + m.2 + 6 * k ≤ (xP X).2.2.2.2
/-- so many calls are left: from the loop's head -/
def LI (X : Cx) (b k : Nat) : Prop := ∀ (q : PL) (s : S1) (n m : Nat × Nat) (ls : Array Slot), Jt s n m (k, 5 * k) → Lr X q n m k → lv_has ls 8 [(4, .int (Int32.ofNat (3072 - 6 * k))), (3, .ref (q.1 155 0)), (2, .ref (q.1 0 0)), (1, .ref (q.1 100 0)), (0, .ref b)] → WW X q s 23 ls []
theorem of_nn {n : Nat} (h : n < 2147483648) : 0 ≤ Int32.ofNat n := by
  rw [Int32.le_iff_toInt_le]
  have e := nI_toInt (n := n) (by omega)
  have e : (Int32.ofNat n).toInt = (n : Int) := e
  rw [e]
  show (0 : Int) ≤ n
  omega
theorem of_cl {n : Nat} (h : n < 2147483648) : (Int32.ofNat n).toNatClampNeg = n := nI_clamp (by omega)
theorem rmq_pk {P : PP} {q : PL} {n : Nat × Nat} {a b : Nat} : Rmq (pkP P a b) q n ↔ (q.2.1 + n.1 + a ≤ P.2.2.2.1 ∧ q.2.2 + n.2 + b ≤ P.2.2.2.2) := by simp [Rmq, pkP]
theorem rmk_pk {P : PP} {q : PL} {n : Nat × Nat} {a b : Nat} : RmK (pkP P a b) q n ↔ (q.2.1 + n.1 + a ≤ P.2.2.2.1 + 1 ∧ q.2.2 + n.2 + b ≤ P.2.2.2.2 + 6) := by simp [RmK, pkP]
theorem pk_30 {P : PP} {a b : Nat} : (pkP P a b).2.2.1 3000 = a := by simp [pkP]
theorem pk_31 {P : PP} {a b : Nat} : (pkP P a b).2.2.1 3001 = b := by simp [pkP]
section LW
variable {X : Cx} {b L : Nat} {f : Nat → Int32} {q : PL} {s s1 : S1} {y : MethodName} {bytes : ByteArray} {maxL : Nat} {ret : Option FieldType} {fr lo : Nat} {hh : List (Nat × Nat × Nat × Nat)} {pc : Nat} {ls : Array Slot} {rest st0 : List Value} {r nA index : Nat} {i : Int32} {T : u_T} {ty : Nat → FieldType} {L0 : List Nat} {n0 n1 : Nat × Nat} {As : List Value}
theorem wl_arg (A : LA X b L f) {lv : List (Nat × Value)} (hl : lv_has ls 8 lv) {j : Nat} (i0 i4 : Nat) (h0 : lv[i0]? = some (0, .ref b)) (h4 : lv[i4]? = some (4, .int (Int32.ofNat j))) {c : Nat} {ci : Int} (hci : Int32.ofInt ci = Int32.ofNat c) (hjc : j + c < L)
    (d0 : decode code pc = .ok (.aload_n 0, 1)) (d1 : decode code (pc + 1) = .ok (.iload 4, 2)) (d2 : decode code (pc + 1 + 2) = .ok (.iconst ci, 1)) (d3 : decode code (pc + 1 + 2 + 1) = .ok (.iadd, 1)) (d4 : decode code (pc + 1 + 2 + 1 + 1) = .ok (.iaload, 1))
    (kk : WW X q s (pc + 1 + 2 + 1 + 1 + 1) ls (.int (f (j + c)) :: rest)) : WW X q s pc ls rest := by
  obtain ⟨g, -, hX, hbl, hP, hL, -⟩ := A
  refine ww_aload_n g.1 d0 rfl (lv_at hl i0 h0) ?_
  refine ww_iload g.1 d1 (lv_at hl i4 h4) ?_
  refine ww_iconst g.1 (v := Int32.ofNat c) d2 hci ?_
  refine ww_iadd g.1 d3 ?_
  refine ww_xi (v := Int32.ofNat (j + c)) (Int32.ofNat_add j c).symm ?_
  intro H locs hW hS
  have z := kk H locs hW hS
  refine va_sld g.1.1 g.1.2 hX hbl (by rw [hP]; exact Nat.not_le.mpr hbl) hS (i := Int32.ofNat (j + c)) ?_ d4 ?_
  · rintro (w | w)
    · exact absurd (of_nn (n := j + c) (by omega)) (Int32.not_le.mpr w)
    · rw [of_cl (by omega)] at w
      omega
  · rw [of_cl (by omega)]
    exact z
theorem wl_tail (A : LA X b L f) {k : Nat} (hk : k < 512) (hI : LI X b k) {n m : Nat × Nat} (hJ : Jt s n m (k, 5 * k)) (hr : Lr X q n m k) (hl : lv_has ls 8 [(4, .int (Int32.ofNat (3072 - 6 * (k + 1)))), (3, .ref (q.1 155 0)), (2, .ref (q.1 0 0)), (1, .ref (q.1 100 0)), (0, .ref b)]) : WW X q s 501 ls [] := by
  obtain ⟨g, -⟩ := A
  refine ww_iinc (pc := 501) (v := Int32.ofNat (3072 - 6 * (k + 1)) + 6) (lv' := [(4, .int (Int32.ofNat (3072 - 6 * (k + 1)) + 6)), (3, .ref (q.1 155 0)), (2, .ref (q.1 0 0)), (1, .ref (q.1 100 0)), (0, .ref b)]) g.1 d_law_law_501 hl (k := 0) rfl rfl (by decide) rfl fun ls hl => ?_
  refine ww_goto (pc := 504) (tgt := 23) g.1 d_law_law_504 (by decide) ?_
  refine hI q s n m ls hJ hr ?_
  have e : Int32.ofNat (3072 - 6 * (k + 1)) + 6 = Int32.ofNat (3072 - 6 * k) := by
    have z := (Int32.ofNat_add (3072 - 6 * (k + 1)) 6).symm
    rw [show 3072 - 6 * (k + 1) + 6 = 3072 - 6 * k by omega] at z
    exact z
  rw [← e]
  exact hl
theorem wl_cls (A : LA X b L f) (R : Nat × Nat) {rv : Int32} (hv : Cond.static y ∈ wA ∧ Cond.initialized y.cls ∈ wA ∧ Cond.codeWith y bytes maxL ret hh ∈ wA ∧ (y.cls ≠ "java/lang/invoke/MethodHandle" ∧ y.cls ≠ "java/lang/invoke/VarHandle" ∧ (parseMethodDescriptor y.desc).map (fun d => d.parameters.length) = some nA)) (hm : Cond.methodLink R_law index y ∈ wA)
    (hM : Rmq (pkP (xP X) R.1 R.2) q n0 → CtW (xl X) y bytes maxL ret hh fr lo (pkP (xP X) R.1 R.2) L0 q s As (fun _ => some (.int rv)) n1 s1) (hr : q.2.1 + n0.1 + R.1 ≤ (xP X).2.2.2.1 ∧ q.2.2 + n0.2 + R.2 ≤ (xP X).2.2.2.2)
    (hR : fr + 1 ≤ 2048 ∧ 8 + (maxL + 11) + lo ≤ 84000) (hn : As.length = nA) (hsz : ls.size = 8) (hrest : (rest.map fun v => v.category).sum ≤ 8) (hdg : decode code pc = .ok (.invokestatic index, 3)) (hst : st0 = As.reverse ++ rest)
    (kk : ∀ q1, Exq (xP X) L0 q q1 → (q1.2.1 + n1.1 + R.1 ≤ (xP X).2.2.2.1 ∧ q1.2.2 + n1.2 + R.2 ≤ (xP X).2.2.2.2) → WW X q1 s1 (pc + 3) ls (.int rv :: rest)) : WW X q s pc ls st0 :=
  wt_callS A.1 (pkP (xP X) R.1 R.2) ⟨_, _, rfl⟩ hv hm (hM (rmq_pk.mpr hr)) hR hn hsz hrest hdg hst (fun q1 hE h => kk q1 hE (rmq_pk.mp h))
theorem wl_clsK (A : LA X b L f) (R : Nat × Nat) {rv : Int32} (hv : Cond.static y ∈ wA ∧ Cond.initialized y.cls ∈ wA ∧ Cond.codeWith y bytes maxL ret hh ∈ wA ∧ (y.cls ≠ "java/lang/invoke/MethodHandle" ∧ y.cls ≠ "java/lang/invoke/VarHandle" ∧ (parseMethodDescriptor y.desc).map (fun d => d.parameters.length) = some nA)) (hm : Cond.methodLink R_law index y ∈ wA)
    (hM : Rmq (pkP (xP X) R.1 R.2) q n0 → CtWK (xl X) y bytes maxL ret hh fr lo (pkP (xP X) R.1 R.2) L0 q s As (fun _ => some (.int rv)) n1 s1) (hr : q.2.1 + n0.1 + R.1 ≤ (xP X).2.2.2.1 ∧ q.2.2 + n0.2 + R.2 ≤ (xP X).2.2.2.2)
    (hR : fr + 1 ≤ 2048 ∧ 8 + (maxL + 11) + lo ≤ 84000) (hn : As.length = nA) (hsz : ls.size = 8) (hrest : (rest.map fun v => v.category).sum ≤ 8) (hdg : decode code pc = .ok (.invokestatic index, 3)) (hst : st0 = As.reverse ++ rest)
    (kk : ∀ q1, Exq (xP X) L0 q q1 → (q1.2.1 + n1.1 + R.1 ≤ (xP X).2.2.2.1 + 1 ∧ q1.2.2 + n1.2 + R.2 ≤ (xP X).2.2.2.2 + 6) → WW X q1 s1 (pc + 3) ls (.int rv :: rest)) : WW X q s pc ls st0 :=
  wt_callSK A.1 (pkP (xP X) R.1 R.2) ⟨_, _, rfl⟩ hv hm (hM (rmq_pk.mpr hr)) hR hn hsz hrest hdg hst (fun q1 hE h => kk q1 hE (rmk_pk.mp h))
theorem wl_ref (A : LA X b L f) (R : Nat × Nat) {rv : Option Value} (hv : CV y bytes maxL ret nA) (hm : Cond.methodLink R_law index y ∈ wA) (hc : ClF r y.cls T ty) (hp : prs s r i)
    (hM : Rmq (pkP (xP X) R.1 R.2) q n0 → CtX (xl X) y bytes maxL ret fr lo (pkP (xP X) R.1 R.2) L0 q s (.ref (q.1 r i) :: As) (fun _ => rv) n1 s1) (hr : q.2.1 + n0.1 + R.1 ≤ (xP X).2.2.2.1 ∧ q.2.2 + n0.2 + R.2 ≤ (xP X).2.2.2.2)
    (hR : fr + 1 ≤ 2048 ∧ 8 + (maxL + 11) + lo ≤ 84000) (hn : As.length = nA) (hsz : ls.size = 8) (hrest : (rest.map fun v => v.category).sum ≤ 8) (hdg : decode code pc = .ok (.invokevirtual index, 3)) (hst : st0 = As.reverse ++ .ref (q.1 r i) :: rest)
    (kk : ∀ q1, Exq (xP X) L0 q q1 → (q1.2.1 + n1.1 + R.1 ≤ (xP X).2.2.2.1 ∧ q1.2.2 + n1.2 + R.2 ≤ (xP X).2.2.2.2) → WW X q1 s1 (pc + 3) ls (rv.toList ++ rest)) : WW X q s pc ls st0 :=
  wt_callP A.1 (pkP (xP X) R.1 R.2) ⟨_, _, rfl⟩ hv hm hc hp (hM (rmq_pk.mpr hr)) hR hn hsz hrest hdg hst (fun q1 hE h => kk q1 hE (rmq_pk.mp h))
end LW
theorem run_thr {n n1 : Nat × Nat} {l : Int32} {s s1 : S1} {k : Int32} (h : X_run n l s = some ((Sum.inl k, n1), s1)) : n1 = n ∧ ∀ n', X_run n' l s = some ((Sum.inl k, n'), s1) := by
  unfold X_run at h ⊢
  by_cases h1 : l < 1
  · have h := oC_pos h1 h
    unfold oR at h
    cases h
    exact ⟨rfl, fun n' => by unfold oC; rw [if_pos h1]; rfl⟩
  · have h := oC_neg h1 h
    by_cases h2 : l ≤ 100000
    · have h := oC_pos h2 h
      obtain ⟨a, s2, e1, h⟩ := oB_of h
      unfold oGI at e1
      cases e1
      by_cases h3 : gI s 12801 0 = 0
      · have h := oC_pos h3 h
        unfold oR at h
        cases h
        refine ⟨rfl, fun n' => ?_⟩
        unfold oC
        rw [if_neg h1, if_pos h2]
        show (if gI s 12801 0 = 0 then _ else _) = _
        rw [if_pos h3]
        rfl
      · exact (td_BX (oC_neg h3 h)).elim
    · have h := oC_neg h2 h
      unfold oR at h
      cases h
      exact ⟨rfl, fun n' => by unfold oC; rw [if_neg h1, if_neg h2]; rfl⟩
