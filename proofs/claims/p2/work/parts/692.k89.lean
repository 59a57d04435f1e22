/-! The class: run. -/
def tw (s : S1) : Nat := if gI s 16396 0 = 1 then 1205 + 6 * (200 - (oD s (mCur s)).toNatClampNeg) else if gI s 16396 0 = 2 then 1204 + 6 * (200 - (oD s (mCur s)).toNatClampNeg) else if gI s 16396 0 = 3 then 3 else if gI s 16396 0 = 4 then 2 else if gI s 16396 0 = 6 then 1 else 0
def nu (s : S1) : Nat := Om s + tw s
theorem tw1 {s : S1} (h : gI s 16396 0 = 1) : tw s = 1205 + 6 * (200 - (oD s (mCur s)).toNatClampNeg) := by
  unfold tw
  rw [if_pos h]
theorem tw2 {s : S1} (h : gI s 16396 0 = 2) : tw s = 1204 + 6 * (200 - (oD s (mCur s)).toNatClampNeg) := by
  unfold tw
  rw [if_neg (by rw [h]; decide), if_pos h]
theorem tw3 {s : S1} (h : gI s 16396 0 = 3) : tw s = 3 := by
  unfold tw
  rw [if_neg (by rw [h]; decide), if_neg (by rw [h]; decide), if_pos h]
theorem tw4 {s : S1} (h : gI s 16396 0 = 4) : tw s = 2 := by
  unfold tw
  rw [if_neg (by rw [h]; decide), if_neg (by rw [h]; decide), if_neg (by rw [h]; decide), if_pos h]
theorem tw6 {s : S1} (h : gI s 16396 0 = 6) : tw s = 1 := by
  unfold tw
  rw [if_neg (by rw [h]; decide), if_neg (by rw [h]; decide), if_neg (by rw [h]; decide), if_neg (by rw [h]; decide), if_pos h]
theorem tw5 {s : S1} (h : gI s 16396 0 = 5) : tw s = 0 := by
  unfold tw
  rw [if_neg (by rw [h]; decide), if_neg (by rw [h]; decide), if_neg (by rw [h]; decide), if_neg (by rw [h]; decide), if_neg (by rw [h]; decide)]
theorem tw_le (s : S1) : tw s ≤ 2405 := by
  unfold tw
  split
  · omega
  · split
    · omega
    · split
      · omega
      · split
        · omega
        · split <;> omega
/-- the machine between two turns -/
def Sv (s : S1) (n : Nat × Nat) : Prop := St0 s n ∨ St1 s n ∨ St2 s n ∨ St3 s n ∨ St4 s n ∨ St5 s n ∨ St6 s n ∨ StE s n
/-- the turn has been taken: the next step, or nearer to it -/
def Tn (s : S1) (n : Nat × Nat) (t : S1) : Prop := Sv t n ∧ (gI t 16396 0 ≠ 0 → nu t < nu s)
theorem Tn.z {s t : S1} {n : Nat × Nat} (h : Sv t n) (z : gI t 16396 0 = 0) : Tn s n t := ⟨h, fun y => absurd z y⟩
theorem enter_tn {s t : S1} {n : Nat × Nat} (h : St1 s n) (r : Re0 s n t) : Tn s n t := by
  have d := (h.1.hi.dep h.1.cur).2.1
  have cd := clampI d.1
  have t1 := tw1 h.2.2.2.1
  rcases r with q | ⟨q, a, b⟩ | ⟨q, a, b⟩ | ⟨q, a, b⟩ | ⟨q, a⟩
  · exact Tn.z (.inl q) q.2.2.2.1
  · refine ⟨.inr (.inr (.inl q)), fun _ => ?_⟩
    have t2 := tw2 q.2.2.2.1
    rw [b] at t2
    unfold nu
    omega
  · refine ⟨.inr (.inl q), fun _ => ?_⟩
    have t2 := tw_le t
    unfold nu
    omega
  · refine ⟨.inr (.inr (.inr (.inl q))), fun _ => ?_⟩
    have t2 := tw3 q.2.2.2.1
    unfold nu
    omega
  · refine ⟨.inr (.inr (.inr (.inr (.inr (.inl q))))), fun _ => ?_⟩
    have t2 := tw5 q.2.2.2.1
    unfold nu
    omega
theorem perform_tn {s t : S1} {n m : Nat × Nat} (h : St2 s n) (r : Rp s m t) : Tn s m t := by
  have d := (h.1.hi.dep h.1.cur).2.1
  have cd := clampI d.1
  have t1 := tw2 h.2.2.2.1
  rcases r with ⟨q, a, b⟩ | ⟨q | q, a⟩
  · refine ⟨.inr (.inl q), fun _ => ?_⟩
    have dt := (q.1.hi.dep q.1.cur).2.1
    have ct := clampI dt.1
    have t2 := tw1 q.2.2.2.1
    have t3 := tw_le t
    unfold nu
    rcases a with ⟨a, c⟩ | a
    · omega
    · omega
  · refine ⟨.inr (.inr (.inr (.inl q))), fun _ => ?_⟩
    have t2 := tw3 q.2.2.2.1
    unfold nu
    omega
  · refine ⟨.inr (.inr (.inr (.inr (.inr (.inl q))))), fun _ => ?_⟩
    have t2 := tw5 q.2.2.2.1
    unfold nu
    omega
theorem give_tn {s t : S1} {n : Nat × Nat} (h : St3 s n) (r : StE t n ∨ St3 t n ∨ St4 t n ∨ St5 t n) (g : Dg s t) : Tn s n t := by
  have t1 := tw3 h.2.2.2.1
  rcases r with q | q | q | q
  · exact Tn.z (.inr (.inr (.inr (.inr (.inr (.inr (.inr q))))))) q.2.2.1
  · refine ⟨.inr (.inr (.inr (.inl q))), fun z => ?_⟩
    have t2 := tw3 q.2.2.2.1
    have q4 := q.2.2.2.1
    unfold nu
    rcases g with g | g | g
    · exact absurd g z
    · omega
    · rw [g.1] at q4
      exact absurd q4 (by decide)
  · refine ⟨.inr (.inr (.inr (.inr (.inl q)))), fun z => ?_⟩
    have t2 := tw4 q.2.2.2.1
    unfold nu
    rcases g with g | g | g
    · exact absurd g z
    · omega
    · have := g.2
      omega
  · refine ⟨.inr (.inr (.inr (.inr (.inr (.inl q))))), fun z => ?_⟩
    have t2 := tw5 q.2.2.2.1
    unfold nu
    rcases g with g | g | g
    · exact absurd g z
    · omega
    · have := g.2
      omega
theorem unwind_tn {s t : S1} {n : Nat × Nat} (h : St5 s n) (r : StE t n ∨ St3 t n ∨ St5 t n) (g : gI t 16396 0 = 0 ∨ Om t + 4 ≤ Om s) : Tn s n t := by
  have t1 := tw5 h.2.2.2.1
  rcases r with q | q | q
  · exact Tn.z (.inr (.inr (.inr (.inr (.inr (.inr (.inr q))))))) q.2.2.1
  · refine ⟨.inr (.inr (.inr (.inl q))), fun z => ?_⟩
    have t2 := tw3 q.2.2.2.1
    unfold nu
    rcases g with g | g
    · exact absurd g z
    · omega
  · refine ⟨.inr (.inr (.inr (.inr (.inr (.inl q))))), fun z => ?_⟩
    have t2 := tw5 q.2.2.2.1
    unfold nu
    rcases g with g | g
    · exact absurd g z
    · omega
theorem So.sv {t : S1} {n : Nat × Nat} (r : So t n) : Sv t n := by
  rcases r with q | q | q | q | q
  · exact .inl q
  · exact .inr (.inl q)
  · exact .inr (.inr (.inr (.inl q)))
  · exact .inr (.inr (.inr (.inr (.inr (.inl q)))))
  · exact .inr (.inr (.inr (.inr (.inr (.inr (.inl q))))))
theorem finish_hu2 (s : S1) : hu M_St_finish s (fun _ t => gI t 16396 0 = 0 ∨ gI t 16396 0 = 6) := by
  have cl : ∀ u, gI u 16396 0 = 0 ∨ gI u 16396 0 = 6 → hu M_St_finish_j235 u (fun _ t => gI t 16396 0 = 0 ∨ gI t 16396 0 = 6) := fun u z => by
    simp only [M_St_finish_j235, hu_B, hu_R]
    exact hu_mono ((ko_Ro_clear 135 0 (by decide)).h u) fun _ v k => by rw [k.2.2.2.2.2 rfl]; exact z
  simp only [M_St_finish, M_St_finish_j154, hu_B, hu_C, hu_GI, hu_PI, hu_PL, hu_R, hu_Pr]
  refine hu_mono (ko_St_decode.h s) fun _ t _ => ?_
  have z0 : gI (sI t 16396 0 0) 16396 0 = 0 := by rw [gI_sI, if_pos ⟨rfl, rfl⟩]
  generalize sI t 16396 0 0 = u at z0 ⊢
  have sa : ∀ a b, hu (M_St_setAll a b) u (fun _ v => hu M_St_finish_j235 v (fun _ t => gI t 16396 0 = 0 ∨ gI t 16396 0 = 6)) := fun a b => hu_mono ((ko_St_setAll a b).h u) fun _ v kv => cl v (.inl ((kv.2.2.2.2.2 rfl).trans z0))
  have de : ∀ v, gI v 16396 0 = 0 → ∀ a, hu (M_St_decide a) v (fun _ w => hu M_St_finish_j235 w (fun _ t => gI t 16396 0 = 0 ∨ gI t 16396 0 = 6)) := fun v zv a => hu_mono (decide_hu a v) fun _ w q => cl w (.inl (q.trans zv))
  refine ⟨fun _ => cl u (.inl z0), fun _ => ⟨fun _ _ => ?_, fun _ => ⟨fun _ => ?_, fun _ => ⟨fun _ => ⟨fun _ => ?_, fun _ => sa _ _⟩, fun _ => ⟨fun _ => sa _ _, fun _ => sa _ _⟩⟩⟩⟩⟩
  · refine hu_mono ((ko_Ro_kindAt 135 0 0).h u) fun x v kv _ => ?_
    refine hu_mono ((ko_Ro_valueAt 135 0 0).h _) fun y w kw => ?_
    exact cl _ (.inr (by rw [gI_sI, if_pos ⟨rfl, rfl⟩]))
  · refine hu_mono ((ko_Ro_kindAt 135 0 0).h u) fun x v kv => ?_
    have zv := (kv.2.2.2.2.2 rfl).trans z0
    exact ⟨fun _ => de v zv _, fun _ => de v zv _⟩
  · have z1 : gI (sI u 16390 0 (gI u 16521 0)) 16396 0 = 0 := by
      rw [gI_sI, if_neg (fun z => absurd z.1 (by decide))]
      exact z0
    exact hu_mono ((ko_Ro_takeAll 138 0 135 0 (by decide) (by decide)).h _) fun _ v kv => cl v (.inl ((kv.2.2.2.2.2 rfl).trans z1))
theorem finish_tn {s t : S1} {n : Nat × Nat} (h : St4 s n) (r : So t n) (g : Df s t) (k : gI t 16396 0 = 0 ∨ gI t 16396 0 = 6) : Tn s n t := by
  refine ⟨r.sv, fun z => ?_⟩
  have t1 := tw4 h.2.2.2.1
  rcases k with k | k
  · exact absurd k z
  · have t2 := tw6 k
    unfold nu
    rcases g with g | g
    · exact absurd g z
    · have := g.oM
      omega
theorem join_tn {s t : S1} {n m : Nat × Nat} (h : St6 s n) (r : So t m) (g : Dj s t) : Tn s m t := by
  refine ⟨r.sv, fun z => ?_⟩
  have t1 := tw6 h.2.2.2.1
  unfold nu
  rcases g with g | g | g
  · exact absurd g z
  · have t2 := tw_le t
    have := g.2
    omega
  · have t2 := tw5 g.1
    have := g.2
    omega
/-- before a step, or at the end -/
def Rz (t : S1) (n : Nat × Nat) : Prop := (St0 t n ∨ StE t n) ∧ outR t
theorem Sv.z {t : S1} {n : Nat × Nat} (h : Sv t n) (z : gI t 16396 0 = 0) : St0 t n ∨ StE t n := by
  have no : ∀ k : Int32, gI t 16396 0 = k → k ≠ 0 → St0 t n ∨ StE t n := fun k e q => absurd (e.symm.trans z) q
  rcases h with h | h | h | h | h | h | h | h
  · exact .inl h
  · exact no 1 h.2.2.2.1 (by decide)
  · exact no 2 h.2.2.2.1 (by decide)
  · exact no 3 h.2.2.2.1 (by decide)
  · exact no 4 h.2.2.2.1 (by decide)
  · exact no 5 h.2.2.2.1 (by decide)
  · exact no 6 h.2.2.2.1 (by decide)
  · exact .inr h
def tuI (l : Int32) (y : Int32 × Int32 × (Nat × Nat)) (t : S1) : Prop := y.1 = l ∧ Sv t y.2.2 ∧ outR t ∧ 0 ≤ y.2.1.toInt ∧ y.2.1.toInt ≤ 1000000000 ∧ (gI t 16396 0 ≠ 0 → (nu t : Int) + y.2.1.toInt ≤ 999999999)
def tuP (l : Int32) (e : Int32 × (Nat × Nat)) (t : S1) : Prop := e.1 = l ∧ Rz t e.2
theorem turns_ok {s : S1} {n : Nat × Nat} {l : Int32} (h : Sv s n) (o : outR s) (b : nu s ≤ 999999999) : ok (oW M_LM_run_L59 (l, 0, n)) s (tuP l) := by
  have e1 : (1 : Int32).toInt = 1 := rfl
  have e0 : (0 : Int32).toInt = 0 := rfl
  have e9 : (1000000000 : Int32).toInt = 1000000000 := rfl
  refine ok_W (tuI l) (fun y _ => (1000000000 - y.2.1.toInt).toNat) ?_ (l, 0, n) s ⟨rfl, h, o, Int.le_refl _, by show (0 : Int32).toInt ≤ _; decide, fun _ => by show (nu s : Int) + (0 : Int32).toInt ≤ _; omega⟩
  rintro ⟨l', k, m⟩ t ⟨el, sv, ot, k0, k1, kn⟩
  dsimp only at el sv k0 k1 kn
  rw [el]
  have fin : ∀ {q : Nat × Nat} {u : S1}, Tn t q u → outR u → gI t 16396 0 ≠ 0 → k.toInt < 1000000000 → tuI l (l, k + 1, q) u ∧ (1000000000 - (k + 1).toInt).toNat < (1000000000 - k.toInt).toNat := fun {q} {u} tn ou nz kl => by
    have ek : (k + 1).toInt = k.toInt + 1 := by rw [ktI_add] <;> omega
    have kk := kn nz
    refine ⟨⟨rfl, tn.1, ou, by dsimp only; omega, by dsimp only; omega, fun z => ?_⟩, by omega⟩
    have := tn.2 z
    dsimp only
    omega
  simp only [M_LM_run_L59, M_LM_run_j177, ok_B, ok_C, ok_R, ok_L, ok_K, ok_GI, ok_GL, ok_PI, ok_PL, ok_AI, ok_AL, ok_SI, ok_SL, ok_CI, cmp_lt, cmp_le, cmp_gt, cmp_ge, cmp_eq, nar0, nar1, Sum.elim_inl, Sum.elim_inr, ok_PzT, ok_PzC, ok_PzP, ok_PrC, ok_PrP, ok_PrF, ok_PrN, ok_Ln, ok_CL, ok_Nw, ok_S, ok_Ks, ok_Nz]
  refine ⟨fun c => ?_, fun c => ?_⟩
  · rw [i32_le] at c
    have z : gI t 16396 0 = 0 := Decidable.byContradiction fun nz => by
      have := kn nz
      omega
    exact ⟨rfl, sv.z z, ot⟩
  · rw [i32_le] at c
    refine ⟨fun z => ⟨rfl, sv.z z, ot⟩, fun nz => ?_⟩
    have ne : ∀ j : Int32, gI t 16396 0 = j → ∀ i : Int32, i ≠ j → gI t 16396 0 ≠ i := fun j e i q z => q (z.symm.trans e)
    refine ⟨fun z => ?_, fun n1 => ⟨fun z => ?_, fun n2 => ⟨fun z => ?_, fun n3 => ⟨fun z => ?_, fun n4 => ⟨fun z => ?_, fun n6 => ?_⟩⟩⟩⟩⟩
    · have st : St1 t m := by
        rcases sv with h | h | h | h | h | h | h | h
        · exact absurd h.2.2.2.1 nz
        · exact h
        · exact absurd z (ne 2 h.2.2.2.1 1 (by decide))
        · exact absurd z (ne 3 h.2.2.2.1 1 (by decide))
        · exact absurd z (ne 4 h.2.2.2.1 1 (by decide))
        · exact absurd z (ne 5 h.2.2.2.1 1 (by decide))
        · exact absurd z (ne 6 h.2.2.2.1 1 (by decide))
        · exact absurd h.2.2.1 nz
      refine ok_mono ((enterM st).zk zk_Ma_enter) ?_
      rintro - u ⟨r, zz⟩
      exact fin (enter_tn st r) (ot.zk zz) nz (by omega)
    · have st : St2 t m := by
        rcases sv with h | h | h | h | h | h | h | h
        · exact absurd h.2.2.2.1 nz
        · exact absurd h.2.2.2.1 n1
        · exact h
        · exact absurd z (ne 3 h.2.2.2.1 2 (by decide))
        · exact absurd z (ne 4 h.2.2.2.1 2 (by decide))
        · exact absurd z (ne 5 h.2.2.2.1 2 (by decide))
        · exact absurd z (ne 6 h.2.2.2.1 2 (by decide))
        · exact absurd h.2.2.1 nz
      refine ok_mono (performM st ot) ?_
      rintro r u ⟨q, ou⟩
      exact fin (perform_tn st q) ou nz (by omega)
    · have st : St3 t m := by
        rcases sv with h | h | h | h | h | h | h | h
        · exact absurd h.2.2.2.1 nz
        · exact absurd h.2.2.2.1 n1
        · exact absurd h.2.2.2.1 n2
        · exact h
        · exact absurd z (ne 4 h.2.2.2.1 3 (by decide))
        · exact absurd z (ne 5 h.2.2.2.1 3 (by decide))
        · exact absurd z (ne 6 h.2.2.2.1 3 (by decide))
        · exact absurd h.2.2.1 nz
      refine ok_mono (((give_ok st).wh (give_hu st)).zk zk_Ma_give_) ?_
      rintro - u ⟨⟨r, g⟩, zz⟩
      exact fin (give_tn st r g) (ot.zk zz) nz (by omega)
    · have st : St4 t m := by
        rcases sv with h | h | h | h | h | h | h | h
        · exact absurd h.2.2.2.1 nz
        · exact absurd h.2.2.2.1 n1
        · exact absurd h.2.2.2.1 n2
        · exact absurd h.2.2.2.1 n3
        · exact h
        · exact absurd z (ne 5 h.2.2.2.1 4 (by decide))
        · exact absurd z (ne 6 h.2.2.2.1 4 (by decide))
        · exact absurd h.2.2.1 nz
      refine ok_mono ((((finish_ok st).wh (finish_hu t)).wh (finish_hu2 t)).zk zk_St_finish) ?_
      rintro - u ⟨⟨⟨r, g⟩, g2⟩, zz⟩
      exact fin (finish_tn st r g g2) (ot.zk zz) nz (by omega)
    · have st : St6 t m := by
        rcases sv with h | h | h | h | h | h | h | h
        · exact absurd h.2.2.2.1 nz
        · exact absurd h.2.2.2.1 n1
        · exact absurd h.2.2.2.1 n2
        · exact absurd h.2.2.2.1 n3
        · exact absurd h.2.2.2.1 n4
        · exact absurd z (ne 5 h.2.2.2.1 6 (by decide))
        · exact h
        · exact absurd h.2.2.1 nz
      refine ok_mono ((joinOnM st).zk (zk_St_joinOn m)) ?_
      rintro r u ⟨⟨q, g⟩, zz⟩
      exact fin (join_tn st q g) (ot.zk zz) nz (by omega)
    · have st : St5 t m := by
        rcases sv with h | h | h | h | h | h | h | h
        · exact absurd h.2.2.2.1 nz
        · exact absurd h.2.2.2.1 n1
        · exact absurd h.2.2.2.1 n2
        · exact absurd h.2.2.2.1 n3
        · exact absurd h.2.2.2.1 n4
        · exact h
        · exact absurd h.2.2.2.1 n6
        · exact absurd h.2.2.1 nz
      refine ok_mono (((unwind_ok st).wh (unwind_hu st)).zk zk_Ma_unwind) ?_
      rintro - u ⟨⟨r, g⟩, zz⟩
      exact fin (unwind_tn st r g) (ot.zk zz) nz (by omega)
theorem So.bd {t : S1} {n : Nat × Nat} (r : So t n) : nu t ≤ 999999999 := by
  have t1 := tw_le t
  unfold nu
  rcases r with q | q | q | q | q
  · have := Om_bd q.1 q.2.1
    omega
  · have := Om_bd q.1 q.2.1
    omega
  · have := Om_bd q.1 q.2.1
    omega
  · have := Om_bd q.1 q.2.1
    omega
  · have := Om_bd q.1 q.2.1
    omega
def ruI (y : Int32 × (Nat × Nat)) (t : S1) : Prop := Rz t y.2 ∧ 0 ≤ y.1.toInt ∧ y.1.toInt ≤ 100000
theorem steps_ok {s : S1} {n : Nat × Nat} {l : Int32} (h : Rz s n) (l0 : 0 ≤ l.toInt) (l1 : l.toInt ≤ 100000) : ok (oW M_LM_run_L36 (l, n)) s (fun m t => Rz t m) := by
  have em : (-1 : Int32).toInt = -1 := rfl
  have e0 : (0 : Int32).toInt = 0 := rfl
  refine ok_W ruI (fun y _ => y.1.toInt.toNat) ?_ (l, n) s ⟨h, l0, l1⟩
  rintro ⟨l, m⟩ t ⟨⟨st, ot⟩, l0, l1⟩
  dsimp only at st l0 l1
  simp only [M_LM_run_L36, M_LM_run_j183, ok_B, ok_C, ok_R, ok_L, ok_K, ok_GI, ok_GL, ok_PI, ok_PL, ok_AI, ok_AL, ok_SI, ok_SL, ok_CI, cmp_lt, cmp_le, cmp_gt, cmp_ge, cmp_eq, nar0, nar1, Sum.elim_inl, Sum.elim_inr, ok_PzT, ok_PzC, ok_PzP, ok_PrC, ok_PrP, ok_PrF, ok_PrN, ok_Ln, ok_CL, ok_Nw, ok_S, ok_Ks, ok_Nz]
  refine ⟨fun _ => ⟨st, ot⟩, fun c => ⟨fun z => ?_, fun _ => ⟨st, ot⟩⟩⟩
  rw [i32_le] at c
  have s0 : St0 t m := by
    rcases st with q | q
    · exact q
    · exact absurd z q.2.2.2
  refine ok_mono ((step_ok s0).zk (zk_St_step m)) ?_
  rintro r u ⟨q, zz⟩
  refine ok_mono (turns_ok (l := l) q.sv (ot.zk zz) q.bd) ?_
  rintro e v ⟨ee, rz⟩
  rw [ee]
  have el : (l + -1).toInt = l.toInt - 1 := by rw [ktI_add] <;> omega
  exact ⟨⟨rz, by dsimp only; omega, by dsimp only; omega⟩, by omega⟩
theorem run_ok {s : S1} {n : Nat × Nat} {l : Int32} (h : Rz s n) (l0 : 1 ≤ l.toInt) (l1 : l.toInt ≤ 100000) (ld : gI s 12801 0 ≠ 0) : ok (M_LM_run n l) s (fun r t => Rz t r.2) := by
  have e1 : (1 : Int32).toInt = 1 := rfl
  have e5 : (100000 : Int32).toInt = 100000 := rfl
  simp only [M_LM_run, M_LM_run_j189, ok_B, ok_C, ok_R, ok_L, ok_K, ok_GI, ok_GL, ok_PI, ok_PL, ok_AI, ok_AL, ok_SI, ok_SL, ok_CI, cmp_lt, cmp_le, cmp_gt, cmp_ge, cmp_eq, nar0, nar1, Sum.elim_inl, Sum.elim_inr, ok_PzT, ok_PzC, ok_PzP, ok_PrC, ok_PrP, ok_PrF, ok_PrN, ok_Ln, ok_CL, ok_Nw, ok_S, ok_Ks, ok_Nz]
  refine ⟨fun c => ?_, fun _ => ⟨fun _ => ⟨fun z => absurd z ld, fun _ => ?_⟩, fun c => ?_⟩⟩
  · rw [i32_lt] at c
    omega
  · exact ok_mono (steps_ok h (by omega) l1) fun m t q => q
  · rw [i32_le] at c
    omega
