/-! Loops, checks, refs that may be null, answers. -/
def oW {σ ρ : Type} (body : σ → M (σ ⊕ ρ)) (x : σ) (s : S1) : Option (ρ × S1) := match body x s with
  | none => none
  | some (.inl y, s') => oW body y s'
  | some (.inr e, s') => some (e, s')
partial_fixpoint
def oWn {σ ρ : Type} (body : σ → M (σ ⊕ ρ)) : Nat → σ → S1 → Option (ρ × S1)
  | 0, _, _ => none
  | n + 1, x, s => match body x s with
    | none => none
    | some (.inl y, s') => oWn body n y s'
    | some (.inr e, s') => some (e, s')
theorem oW_n {σ ρ : Type} (body : σ → M (σ ⊕ ρ)) (x : σ) (s : S1) (o : ρ × S1) (h : oW body x s = some o) : ∃ n, oWn body n x s = some o := by
  refine oW.partial_correctness (body := body) (motive := fun x s o => ∃ n, oWn body n x s = some o) ?_ x s o h
  intro f ih x s o h
  cases hb : body x s with
  | none => rw [hb] at h; cases h
  | some p =>
    obtain ⟨y, s'⟩ := p
    cases y with
    | inl y =>
      rw [hb] at h
      obtain ⟨n, hn⟩ := ih y s' o h
      exact ⟨n + 1, by simp only [oWn, hb]; exact hn⟩
    | inr e =>
      rw [hb] at h
      exact ⟨1, by simp only [oWn, hb]; exact h⟩
theorem oW_rule {σ ρ : Type} {body : σ → M (σ ⊕ ρ)} {Wh : σ → S1 → Prop} {We : ρ → S1 → Prop} (hb : ∀ (x : σ) (s : S1) (o : (σ ⊕ ρ) × S1), body x s = some o → Sum.elim (fun y => Wh y o.2) (fun e => We e o.2) o.1 → Wh x s)
    {x : σ} {s : S1} {e : ρ} {s' : S1} (h : oW body x s = some (e, s')) (he : We e s') : Wh x s := by
  obtain ⟨n, hn⟩ := oW_n body x s (e, s') h
  clear h
  induction n generalizing x s with
  | zero => cases hn
  | succ n ih =>
    cases hc : body x s with
    | none => simp only [oWn, hc] at hn; cases hn
    | some p =>
      obtain ⟨y, s2⟩ := p
      cases y with
      | inl y =>
        simp only [oWn, hc] at hn
        exact hb x s _ hc (ih hn)
      | inr e2 =>
        simp only [oWn, hc] at hn
        obtain ⟨rfl, rfl⟩ := Prod.mk.inj (Option.some.inj hn)
        exact hb x s _ hc he
theorem oR_eq {α : Type} {a : α} {s : S1} {o : α × S1} (h : oR a s = some o) : o = (a, s) := (Option.some.inj h).symm
theorem pz {s : S1} {r : Nat} (h : dyF r = false) (h1 : 0 < cnF r) : prs s r 0 := ⟨fun e => absurd (h.symm.trans e) (by decide), by decide, h1⟩
theorem pt {s : S1} {r : Nat} {t : Int32} (h : dyF r = false) (h1 : cnF r = 33) (ht : 0 ≤ t ∧ t < 33) : prs s r t := by
  refine ⟨fun e => absurd (h.symm.trans e) (by decide), ht.1, ?_⟩
  have := j_in ht (N := 33) (by decide)
  omega
theorem pd {s : S1} {r f : Nat} {v : Int32} (hf : 128 * r + 127 = f) (h1 : 0 < cnF r) (hv : v = gI s f 0) (h : v = 1) : prs s r 0 := ⟨fun _ => by rw [hf, ← hv]; exact h, by decide, h1⟩
theorem vr_nn {q : PL} {r : Nat} {x n : Int32} (h : 0 ≤ x ∧ x < n) : vr q r x = .ref (q.1 r x) := by
  unfold vr
  rw [if_neg]
  intro e
  subst e
  exact absurd h.1 (by decide)
/-! Rows of values: which roles they have. -/
def VOK (r : Nat) (i : Int32) : Prop := (((r = 1 ∨ r = 4 ∨ r = 7 ∨ r = 10 ∨ r = 13 ∨ r = 16) ∧ i = 0) ∨ ((r = 19 ∨ r = 22 ∨ r = 25) ∧ 0 ≤ i ∧ i < 33))
theorem vok_f {r : Nat} {i : Int32} (h : VOK r i) : (rkF r = 0 ∧ ciF r = 10 ∧ nfF r = 3) ∧ (tcG (128 * r + 0) = 2 ∧ tgG (128 * r + 0) = r + 1) ∧ (tcG (128 * r + 1) = 2 ∧ tgG (128 * r + 1) = r + 2) ∧ tcG (128 * r + 2) = 0 ∧ rkF (r + 1) = 2 ∧ rkF (r + 2) = 4 := by
  rcases h with ⟨h, -⟩ | ⟨h, -⟩
  · rcases h with rfl | rfl | rfl | rfl | rfl | rfl <;> decide
  · rcases h with rfl | rfl | rfl <;> decide
theorem vok_p {s : S1} {r : Nat} {i : Int32} (h : VOK r i) : prs s r i ∧ prs s (r + 1) i ∧ prs s (r + 2) i := by
  rcases h with ⟨h, rfl⟩ | ⟨h, hi⟩
  · rcases h with rfl | rfl | rfl | rfl | rfl | rfl <;> exact ⟨pz rfl (by decide), pz rfl (by decide), pz rfl (by decide)⟩
  · rcases h with rfl | rfl | rfl <;> exact ⟨pt rfl rfl hi, pt rfl rfl hi, pt rfl rfl hi⟩
def lnI (r : Nat) : Int32 := Int32.ofNat (lnF r)
theorem vok_n {s : S1} {r : Nat} {i : Int32} (h : VOK r i) : (lnI (r + 1)).toNatClampNeg = lnS s (r + 1) i ∧ (lnI (r + 2)).toNatClampNeg = lnS s (r + 2) i := by
  rcases h with ⟨h, -⟩ | ⟨h, -⟩
  · rcases h with rfl | rfl | rfl | rfl | rfl | rfl <;> exact ⟨rfl, rfl⟩
  · rcases h with rfl | rfl | rfl <;> exact ⟨rfl, rfl⟩
theorem cl_Mo : ClF 0 R_Mo TMo tyMo := ⟨rfl, rfl, ic_Mo, tyMo_ok, nmMo, fun k => by unfold TMo; split <;> rfl⟩
theorem cl_Th : ClF 28 R_Th TTh tyTh := ⟨rfl, rfl, ic_Th, tyTh_ok, nmTh, fun k => by unfold TTh; split <;> rfl⟩
theorem cl_Va {r : Nat} {i : Int32} (h : VOK r i) : ClF r R_Va TVa tyVa := by
  obtain ⟨⟨h1, h2, h3⟩, -⟩ := vok_f h
  refine ⟨h1, by rw [h2, h3]; rfl, by rw [h3]; exact ic_Va, by rw [h3]; exact tyVa_ok, by rw [h3]; exact nmVa, fun k => by unfold TVa; split <;> rfl⟩
section MO
variable {X : Cx} {q : PL} {s : S1} {y : MethodName} {cc : ByteArray} {nL : Nat} {ret : Option FieldType} {fr lo : Nat} {own : String} {pc : Nat} {ls : Array Slot} {rest : List Value} {α : Type} {o : α × S1}
theorem ww_ok {c : Prop} [Decidable c] {kt : Unit → M α} {st : List Value} (h : oB (oK c) kt s = some o) (kk : c → kt () s = some o → WW X q s pc ls st) : WW X q s pc ls st := kk (oK_in h).1 (oK_in h).2
theorem ww_st {st st' : List Value} (e : st = st') (kk : WW X q s pc ls st') : WW X q s pc ls st := e ▸ kk
theorem ww_nn {r : Nat} {x n : Int32} (h : 0 ≤ x ∧ x < n) (kk : WW X q s pc ls (.ref (q.1 r x) :: rest)) : WW X q s pc ls (vr q r x :: rest) := by rw [vr_nn h]; exact kk
theorem ww_dn {a : Nat} {v : Int32} (h : v = 1) (kk : WW X q s pc ls (.ref a :: rest)) : WW X q s pc ls ((if v = 1 then .ref a else .null) :: rest) := by rw [if_pos h]; exact kk
theorem vr_cases {r : Nat} {x : Int32} : vr q r x = .null ∨ ∃ a, vr q r x = .ref a := by
  unfold vr
  by_cases h : x = -1
  · rw [if_pos h]; exact Or.inl rfl
  · rw [if_neg h]; exact Or.inr ⟨_, rfl⟩
theorem ww_aloadV (g : Gx X cc) {i : Nat} {v : Value} (hv : v = .null ∨ ∃ a, v = .ref a) (hdg : decode cc pc = .ok (.aload i, 2)) (hl : ls[i]? = some (.val v)) (kk : WW X q s (pc + 2) ls (v :: rest)) : WW X q s pc ls rest := by
  rcases hv with rfl | ⟨a, rfl⟩
  · exact ww_aloadN g hdg hl kk
  · exact ww_aload g hdg hl kk
theorem ww_aload_nV (g : Gx X cc) {k : Fin 4} {i : Nat} {v : Value} (hv : v = .null ∨ ∃ a, v = .ref a) (hdg : decode cc pc = .ok (.aload_n k, 1)) (hi : (k : Nat) = i) (hl : ls[i]? = some (.val v)) (kk : WW X q s (pc + 1) ls (v :: rest)) : WW X q s pc ls rest := by
  rcases hv with rfl | ⟨a, rfl⟩
  · exact ww_aload_nN g hdg hi hl kk
  · exact ww_aload_n g hdg hi hl kk
theorem ww_astoreV (g : Gx X cc) {i nL : Nat} {v : Value} (hv : v = .null ∨ ∃ a, v = .ref a) {lv lv' : List (Nat × Value)} (hdg : decode cc pc = .ok (.astore i, 2)) (h : lv_has ls nL lv) (hn : i < nL) (hl : (i, v) :: lv.filter (fun q => !(q.1 == i) && !(q.1 + 1 == i && q.2.category == 2)) = lv')
    (kk : ∀ ls' : Array Slot, lv_has ls' nL lv' → WW X q s (pc + 2) ls' rest) : WW X q s pc ls (v :: rest) := by
  rcases hv with rfl | ⟨a, rfl⟩
  · exact ww_astoreN g hdg h hn hl kk
  · exact ww_astore g hdg h hn hl kk
theorem ww_astore_nV (g : Gx X cc) {k : Fin 4} {i nL : Nat} {v : Value} (hv : v = .null ∨ ∃ a, v = .ref a) {lv lv' : List (Nat × Value)} (hdg : decode cc pc = .ok (.astore_n k, 1)) (hi : (k : Nat) = i) (h : lv_has ls nL lv) (hn : i < nL) (hl : (i, v) :: lv.filter (fun q => !(q.1 == i) && !(q.1 + 1 == i && q.2.category == 2)) = lv')
    (kk : ∀ ls' : Array Slot, lv_has ls' nL lv' → WW X q s (pc + 1) ls' rest) : WW X q s pc ls (v :: rest) := by
  rcases hv with rfl | ⟨a, rfl⟩
  · exact ww_astore_nN g hdg hi h hn hl kk
  · exact ww_astore_n g hdg hi h hn hl kk
theorem ww_ifnullV (g : Gx X cc) {r : Nat} {x : Int32} {off : Int} {tgt : Nat} {m1 m2 : M α} (hdg : decode cc pc = .ok (.ifnull off, 3)) (ht : (pc : Int) + off = (tgt : Int)) (h : oC (x = -1) m1 m2 s = some o) (kt : x = -1 → m1 s = some o → WW X q s tgt ls rest) (kf : ¬ x = -1 → m2 s = some o → WW X q s (pc + 3) ls rest) : WW X q s pc ls (vr q r x :: rest) := by
  unfold vr
  by_cases e : x = -1
  · rw [if_pos e]; exact ww_ifnullN g hdg ht (kt e (oC_pos e h))
  · rw [if_neg e]; exact ww_ifnull g hdg (kf e (oC_neg e h))
theorem ww_ifnonnullV (g : Gx X cc) {r : Nat} {x : Int32} {off : Int} {tgt : Nat} {m1 m2 : M α} (hdg : decode cc pc = .ok (.ifnonnull off, 3)) (ht : (pc : Int) + off = (tgt : Int)) (h : oC (x = -1) m2 m1 s = some o) (kt : ¬ x = -1 → m1 s = some o → WW X q s tgt ls rest) (kf : x = -1 → m2 s = some o → WW X q s (pc + 3) ls rest) : WW X q s pc ls (vr q r x :: rest) := by
  unfold vr
  by_cases e : x = -1
  · rw [if_pos e]; exact ww_ifnonnullN g hdg (kf e (oC_pos e h))
  · rw [if_neg e]; exact ww_ifnonnull g hdg ht (kt e (oC_neg e h))
/-- two of one role: the same address, the same one -/
theorem ww_acmp_ne (g : Gx X cc) {r : Nat} {x z : Int32} (hx : prs s r x) (hz : prs s r z) {off : Int} {tgt : Nat} {m1 m2 : M α} (hdg : decode cc pc = .ok (.if_acmp .ne off, 3)) (ht : (pc : Int) + off = (tgt : Int)) (h : oC (x = z) m2 m1 s = some o) (kt : ¬ x = z → m1 s = some o → WW X q s tgt ls rest) (kf : x = z → m2 s = some o → WW X q s (pc + 3) ls rest) : WW X q s pc ls (.ref (q.1 r z) :: .ref (q.1 r x) :: rest) := by
  intro H locs hW hS
  have hi : q.1 r x = q.1 r z → x = z := fun e => (hW.2.2.2.1 _ _ _ _ hx hz e).2
  refine lv_acmp_ne (rx := some (q.1 r x)) (ry := some (q.1 r z)) g.1 g.2 hdg ht (fun e => ?_) (fun e => ?_)
  · have e' : ¬ x = z := fun w => e (by rw [w])
    exact kt e' (oC_neg e' h) H locs hW hS
  · have e' : x = z := hi (Option.some.inj e)
    exact kf e' (oC_pos e' h) H locs hW hS
theorem ww_acmp_eq (g : Gx X cc) {r : Nat} {x z : Int32} (hx : prs s r x) (hz : prs s r z) {off : Int} {tgt : Nat} {m1 m2 : M α} (hdg : decode cc pc = .ok (.if_acmp .eq off, 3)) (ht : (pc : Int) + off = (tgt : Int)) (h : oC (x = z) m1 m2 s = some o) (kt : x = z → m1 s = some o → WW X q s tgt ls rest) (kf : ¬ x = z → m2 s = some o → WW X q s (pc + 3) ls rest) : WW X q s pc ls (.ref (q.1 r z) :: .ref (q.1 r x) :: rest) := by
  intro H locs hW hS
  have hi : q.1 r x = q.1 r z → x = z := fun e => (hW.2.2.2.1 _ _ _ _ hx hz e).2
  refine lv_acmp_eq (rx := some (q.1 r x)) (ry := some (q.1 r z)) g.1 g.2 hdg ht (fun e => ?_) (fun e => ?_)
  · have e' : x = z := hi (Option.some.inj e)
    exact kt e' (oC_pos e' h) H locs hW hS
  · have e' : ¬ x = z := fun w => e (by rw [w])
    exact kf e' (oC_neg e' h) H locs hW hS
theorem ww_iretH (g : Gd X y cc nL (some .int) fr lo own) {v : Int32} {o : Int32 × S1} (h : oR v s = some o) (hR : Rt X q o.2 (some (.int o.1))) (hdg : decode cc pc = .ok (.ireturn, 1)) : WW X q s pc ls [.int v] := by
  rw [oR_eq h] at hR
  exact ww_iret g hR hdg
theorem ww_zretH (g : Gd X y cc nL (some .boolean) fr lo own) {v : Int32} {o : Int32 × S1} (h : oR v s = some o) (hR : Rt X q o.2 (some (.int o.1))) (hn : v = 0 ∨ v = 1) (hdg : decode cc pc = .ok (.ireturn, 1)) : WW X q s pc ls [.int v] := by
  rw [oR_eq h] at hR
  exact ww_zret g hR (by rcases hn with rfl | rfl <;> rfl) hdg
theorem ww_lretH (g : Gd X y cc nL (some .long) fr lo own) {v : Int64} {o : Int64 × S1} (h : oR v s = some o) (hR : Rt X q o.2 (some (.long o.1))) (hdg : decode cc pc = .ok (.lreturn, 1)) : WW X q s pc ls [.long v] := by
  rw [oR_eq h] at hR
  exact ww_lret g hR hdg
theorem ww_vretH (g : Gd X y cc nL none fr lo own) {o : Unit × S1} (h : oR () s = some o) (hR : Rt X q o.2 none) (hdg : decode cc pc = .ok (.return_, 1)) : WW X q s pc ls [] := by
  rw [oR_eq h] at hR
  exact ww_vret g hR hdg
/-- an int of the stack under another text -/
theorem ww_xi {x v : Int32} (e : x = v) (kk : WW X q s pc ls (.int v :: rest)) : WW X q s pc ls (.int x :: rest) := e ▸ kk
end MO
def iushr (x y : Int32) : Int32 := (x.toUInt32 >>> (y.toUInt32 &&& Int32.toUInt32 31)).toInt32
def lushr (x : Int64) (y : Int32) : Int64 := (x.toUInt64 >>> (y.toInt64.toUInt64 &&& Int64.toUInt64 63)).toInt64
theorem vr_m1 {q : PL} {r : Nat} : vr q r (-1) = .null := by
  unfold vr
  exact if_pos rfl
theorem nz {x : Int32} (h : x = 0 ∨ x = 1) : narrow .boolean (.int x) = .int x := by rcases h with rfl | rfl <;> rfl
theorem nzf {x : Int32} (h : x = 0 ∨ x = 1) : fits .boolean (.int x) = true := by rcases h with rfl | rfl <;> rfl
theorem fits_vr {q : PL} {r : Nat} {x : Int32} {C : String} : fits (.object C) (vr q r x) = true := by
  rcases vr_cases (q := q) (r := r) (x := x) with h | ⟨a, h⟩ <;> rw [h] <;> rfl
theorem vr_cat {q : PL} {r : Nat} {x : Int32} : (vr q r x).category = 1 := by
  rcases vr_cases (q := q) (r := r) (x := x) with h | ⟨a, h⟩ <;> rw [h] <;> rfl
