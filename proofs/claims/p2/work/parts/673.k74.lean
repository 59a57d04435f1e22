/-! The class: built ins: what they begin with; the simple ones. -/
/-- a built in is at work; how it may end -/
def Pf (s : S1) (n : Nat × Nat) : Prop := St3 s n ∧ (rwS s 132).toInt ≤ 250
def Pq (t : S1) (n : Nat × Nat) : Prop := St3 t n ∨ St5 t n
def Po (t : S1) (n : Nat × Nat) : Prop := St1 t n ∨ Pq t n
theorem Pq.o {α : Type} {f : M α} {s : S1} {g : α → Nat × Nat} (h : ok f s (fun r t => Pq t (g r))) : ok f s (fun r t => Po t (g r)) := ok_mono h (fun _ _ z => .inr z)
theorem Pf.a5 {s : S1} {n : Nat × Nat} (h : Pf s n) : (rwS s 132).toInt ≤ 512 := by
  have := h.2
  omega
theorem Pf.w {s : S1} {n : Nat × Nat} (h : Pf s n) : cW s n := h.1.1
theorem Pf.kv {s : S1} {n : Nat × Nat} (h : Pf s n) {i : Int32} (i0 : 0 ≤ i) : cV (cLv false s) (rk s 132 i) (rv s 132 i) := h.1.1.args.kv i0
theorem flQ.st5 {s t : S1} {n : Nat × Nat} {τ : Bool} (f : flQ s t) (W : cW s n) (F : qFr τ s) (h1 : gI s 18951 (mCur s) = 1) (er : cV (cLv false s) (gI t 16399 0) (gL t 16400 0)) : St5 t n := by
  obtain ⟨Wt, Ft⟩ := f.w W F
  have F0 : qFr false t := by
    cases τ with
    | true => exact Ft.weak
    | false => exact Ft
  refine ⟨Wt, F0, ?_, f.2.2.2, by rw [f.lw.lv']; exact er⟩
  rw [show mCur t = mCur s from f.1 _ _ (by decide), f.1 18951 _ (by decide)]
  exact h1
theorem St3.fail {s : S1} {n : Nat × Nat} (h : St3 s n) (e : Int32) : ok (M_Ma_fail e) s (fun _ t => Pq t n) := by
  refine ok_mono (fail_st5 e h.1 h.2.1 h.2.2.1) ?_
  rintro - t q
  exact .inr q
/-- a result is added -/
theorem St3.add {s : S1} {n : Nat × Nat} {k : Int32} {v : Int64} (h : St3 s n) (hv : cV (cLv false s) k v) : ok (M_Ro_add 135 0 k v) s (fun _ t => St3 t n ∧ cRx 135 s t) := by
  obtain ⟨W, F, h1, t3, row⟩ := h
  refine ok_mono (rAdd_ok (L := cLv false s) row hv) ?_
  rintro - t ⟨kx, r, -, -⟩
  have l := cRx.lw (.inr (.inl rfl)) kx
  obtain ⟨q1, q2, q3, q4⟩ := cRx.kept (.inr (.inl rfl)) kx W (fun z => absurd rfl z)
  refine ⟨⟨l.w W F.weak q1 q2 q3 q4, l.fr W F (fun _ => rfl), ?_, (kx.1 _ _ (by decide)).trans t3, by rw [l.lv']; exact r⟩, kx⟩
  rw [l.cur, kx.1 _ _ (by decide)]
  exact h1
theorem St3.addP {s : S1} {n : Nat × Nat} {k : Int32} {v : Int64} (h : St3 s n) (hv : cV (cLv false s) k v) : ok (M_Ro_add 135 0 k v) s (fun _ t => Pq t n) := by
  refine ok_mono (h.add hv) ?_
  rintro - t q
  exact .inl q.1
theorem St3.entry {s : S1} {n : Nat × Nat} {p : Int32} (h : St3 s n) (hp : p < 0 ∨ inT s p) : ok (M_Bu_addEntry p) s (fun _ t => Pq t n) := by
  simp only [M_Bu_addEntry, M_Bu_addEntry_j21, M_Bu_addEntry_j38, ok_B, ok_C, ok_R, ok_L, ok_K, ok_GI, ok_GL, ok_PI, ok_PL, ok_AI, ok_AL, ok_SI, ok_SL, ok_CI, cmp_lt, cmp_le, cmp_gt, cmp_ge, cmp_eq, nar0, nar1, Sum.elim_inl, Sum.elim_inr, ok_PzT, ok_PzC, ok_PzP, ok_PrC, ok_PrP, ok_PrF, ok_PrN, ok_Ln, ok_CL, ok_Nw, ok_S, ok_Ks, ok_Nz]
  refine ⟨fun c => ?_, fun c => ⟨fun z => absurd z c, fun _ => h.addP (cV.lit (by decide))⟩⟩
  have it : inT s p := by
    rcases hp with z | z
    · rw [i32_lt] at z
      rw [i32_le] at c
      omega
    · exact z
  obtain ⟨b1, -, b3⟩ := it.v h.1.hi
  exact ⟨b1, fun _ => ⟨b1, h.addP b3⟩, fun z => absurd c z⟩
theorem St3.truth {s : S1} {n : Nat × Nat} (h : St3 s n) (b : Int32) : ok (M_Bu_addTruth b) s (fun _ t => Pq t n) := by
  simp only [M_Bu_addTruth, M_Bu_addTruth_j13, ok_B, ok_C, ok_R, ok_L, ok_K, ok_GI, ok_GL, ok_PI, ok_PL, ok_AI, ok_AL, ok_SI, ok_SL, ok_CI, cmp_lt, cmp_le, cmp_gt, cmp_ge, cmp_eq, nar0, nar1, Sum.elim_inl, Sum.elim_inr, ok_PzT, ok_PzC, ok_PzP, ok_PrC, ok_PrP, ok_PrF, ok_PrN, ok_Ln, ok_CL, ok_Nw, ok_S, ok_Ks, ok_Nz]
  exact ⟨fun _ => h.addP (cV.lit (by decide)), fun _ => h.addP (cV.lit (by decide))⟩
/-- whether the first argument has a kind -/
def hsQ (s : S1) (n : Nat × Nat) (k r : Int32) (t : S1) : Prop := (r = 1 ∧ t = s ∧ rk s 132 0 = k) ∨ (r = 0 ∧ St5 t n)
theorem rk_fl {s t : S1} (f : flQ s t) (i : Int32) : rwS t 132 = rwS s 132 ∧ rk t 132 i = rk s 132 i := by
  have e : rwS t 132 = rwS s 132 := f.1 _ _ (by decide)
  refine ⟨e, ?_⟩
  unfold rk
  rw [e, show rwK t 132 i = rwK s 132 i from by show t.2.2.1 _ _ _ = s.2.2.1 _ _ _; rw [f.2.2.1]]
theorem fl_ok {s : S1} {n : Nat × Nat} (h : St3 s n) (e : Int32) : ok (M_Ma_fail e) s (fun _ t => flQ s t ∧ St5 t n) := by
  refine ok_mono (fail_ok e s) ?_
  rintro - t ⟨f, k⟩
  refine ⟨f, f.st5 h.1 h.2.1 h.2.2.1 ?_⟩
  rw [k]
  exact cV.lit (by decide)
theorem hasTable_ok {s : S1} {n : Nat × Nat} (h : Pf s n) : ok M_Bu_hasTable s (hsQ s n 5) := by
  have a5 := h.a5
  simp only [M_Bu_hasTable, M_Bu_hasTable_j20, ok_B, ok_C, ok_R, ok_L, ok_K, ok_GI, ok_GL, ok_PI, ok_PL, ok_AI, ok_AL, ok_SI, ok_SL, ok_CI, cmp_lt, cmp_le, cmp_gt, cmp_ge, cmp_eq, nar0, nar1, Sum.elim_inl, Sum.elim_inr, ok_PzT, ok_PzC, ok_PzP, ok_PrC, ok_PrP, ok_PrF, ok_PrN, ok_Ln, ok_CL, ok_Nw, ok_S, ok_Ks, ok_Nz]
  rw [ok_kA a5 (by decide)]
  refine ⟨fun c => ?_, fun c => ?_⟩
  · rw [ok_kA a5 (by decide)]
    exact ⟨fun _ => .inl ⟨rfl, rfl, c⟩, fun z => absurd c z⟩
  · refine ok_mono (fl_ok h.1 2) ?_
    rintro - t ⟨f, q⟩
    obtain ⟨e1, e2⟩ := rk_fl f 0
    rw [ok_kA (by rw [e1]; exact a5) (by decide), e2]
    exact ⟨fun z => absurd z c, fun _ => .inr ⟨rfl, q⟩⟩
theorem hasFunction_ok {s : S1} {n : Nat × Nat} (h : Pf s n) : ok M_Bu_hasFunction s (hsQ s n 6) := by
  have a5 := h.a5
  simp only [M_Bu_hasFunction, M_Bu_hasFunction_j21, ok_B, ok_C, ok_R, ok_L, ok_K, ok_GI, ok_GL, ok_PI, ok_PL, ok_AI, ok_AL, ok_SI, ok_SL, ok_CI, cmp_lt, cmp_le, cmp_gt, cmp_ge, cmp_eq, nar0, nar1, Sum.elim_inl, Sum.elim_inr, ok_PzT, ok_PzC, ok_PzP, ok_PrC, ok_PrP, ok_PrF, ok_PrN, ok_Ln, ok_CL, ok_Nw, ok_S, ok_Ks, ok_Nz]
  rw [ok_kA a5 (by decide)]
  refine ⟨fun c => ?_, fun c => ?_⟩
  · rw [ok_kA a5 (by decide)]
    exact ⟨fun _ => .inl ⟨rfl, rfl, c⟩, fun z => absurd c z⟩
  · refine ok_mono (fl_ok h.1 1) ?_
    rintro - t ⟨f, q⟩
    obtain ⟨e1, e2⟩ := rk_fl f 0
    rw [ok_kA (by rw [e1]; exact a5) (by decide), e2]
    exact ⟨fun z => absurd z c, fun _ => .inr ⟨rfl, q⟩⟩
theorem hasCoroutine_ok {s : S1} {n : Nat × Nat} (h : Pf s n) : ok M_Bu_hasCoroutine s (hsQ s n 7) := by
  have a5 := h.a5
  simp only [M_Bu_hasCoroutine, M_Bu_hasCoroutine_j21, ok_B, ok_C, ok_R, ok_L, ok_K, ok_GI, ok_GL, ok_PI, ok_PL, ok_AI, ok_AL, ok_SI, ok_SL, ok_CI, cmp_lt, cmp_le, cmp_gt, cmp_ge, cmp_eq, nar0, nar1, Sum.elim_inl, Sum.elim_inr, ok_PzT, ok_PzC, ok_PzP, ok_PrC, ok_PrP, ok_PrF, ok_PrN, ok_Ln, ok_CL, ok_Nw, ok_S, ok_Ks, ok_Nz]
  rw [ok_kA a5 (by decide)]
  refine ⟨fun c => ?_, fun c => ?_⟩
  · rw [ok_kA a5 (by decide)]
    exact ⟨fun _ => .inl ⟨rfl, rfl, c⟩, fun z => absurd c z⟩
  · refine ok_mono (fl_ok h.1 2) ?_
    rintro - t ⟨f, q⟩
    obtain ⟨e1, e2⟩ := rk_fl f 0
    rw [ok_kA (by rw [e1]; exact a5) (by decide), e2]
    exact ⟨fun z => absurd z c, fun _ => .inr ⟨rfl, q⟩⟩
def hlI (s : S1) (m b : Int32) (y : Int32 × Int32 × Int32) (t : S1) : Prop := t = s ∧ y.1 = m ∧ ((y.2.1 = 0 ∨ y.2.1 = 1) ∧ (b = 0 → y.2.1 = 0)) ∧ 1 ≤ y.2.2.toInt ∧ y.2.2.toInt ≤ 101
def hlP (s : S1) (b r : Int32) (t : S1) : Prop := t = s ∧ (r = 0 ∨ r = 1) ∧ (b = 0 → r = 0)
theorem hsL_ok {s : S1} {n : Nat × Nat} {m b : Int32} (h : Pf s n) (hb : b = 0 ∨ b = 1) (hm : 0 ≤ m.toInt ∧ m.toInt ≤ 100) : ok (oW M_Bu_hasString_L20 (m, b, 1)) s (hlP s b) := by
  have a5 := h.a5
  have e1 : (1 : Int32).toInt = 1 := rfl
  have e0 : (0 : Int32).toInt = 0 := rfl
  refine ok_W (hlI s m b) (fun y _ => (101 - y.2.2.toInt).toNat) ?_ (m, b, 1) s ⟨rfl, rfl, ⟨hb, id⟩, (by show 1 ≤ (1 : Int32).toInt; decide), (by show (1 : Int32).toInt ≤ 101; decide)⟩
  rintro ⟨m', b', i⟩ t ⟨et, em, hb', i0, i1⟩
  dsimp only at em hb' i0 i1
  rw [et, em]
  simp only [M_Bu_hasString_L20, M_Bu_hasString_j56, M_Bu_hasString_j52, M_Bu_hasString_j57, ok_B, ok_C, ok_R, ok_L, ok_K, ok_GI, ok_GL, ok_PI, ok_PL, ok_AI, ok_AL, ok_SI, ok_SL, ok_CI, cmp_lt, cmp_le, cmp_gt, cmp_ge, cmp_eq, nar0, nar1, Sum.elim_inl, Sum.elim_inr, ok_PzT, ok_PzC, ok_PzP, ok_PrC, ok_PrP, ok_PrF, ok_PrN, ok_Ln, ok_CL, ok_Nw, ok_S, ok_Ks, ok_Nz]
  refine ⟨fun _ => ⟨rfl, hb'⟩, fun c => ?_⟩
  rw [i32_lt] at c
  have ei : (i + 1).toInt = i.toInt + 1 := by rw [ktI_add] <;> omega
  have z0 : 0 ≤ i := by
    rw [i32_le]
    omega
  have g : ∀ q : Int32, q = 0 ∨ q = 1 → (b = 0 → q = 0) → hlI s m b (m, q, i + 1) s ∧ (101 - (i + 1).toInt).toNat < (101 - i.toInt).toNat := fun q hq hz => ⟨⟨rfl, rfl, ⟨hq, hz⟩, by dsimp only; omega, by dsimp only; omega⟩, by omega⟩
  refine ⟨fun _ => g 0 (.inl rfl) (fun _ => rfl), fun nz => ?_⟩
  rw [ok_kA a5 z0]
  have nb : b = 0 → (1 : Int32) = 0 := fun z => absurd (hb'.2 z) nz
  refine ⟨fun _ => g 1 (.inr rfl) nb, fun _ => ?_⟩
  rw [ok_kA a5 z0]
  exact ⟨fun _ => g 1 (.inr rfl) nb, fun _ => g 0 (.inl rfl) (fun _ => rfl)⟩
theorem hasString_ok {s : S1} {n : Nat × Nat} {m : Int32} (h : Pf s n) (hm : 0 ≤ m.toInt ∧ m.toInt ≤ 100) : ok (M_Bu_hasString m) s (hsQ s n 4) := by
  have a5 := h.a5
  simp only [M_Bu_hasString, M_Bu_hasString_j17, ok_B, ok_C, ok_R, ok_L, ok_K, ok_GI, ok_GL, ok_PI, ok_PL, ok_AI, ok_AL, ok_SI, ok_SL, ok_CI, cmp_lt, cmp_le, cmp_gt, cmp_ge, cmp_eq, nar0, nar1, Sum.elim_inl, Sum.elim_inr, ok_PzT, ok_PzC, ok_PzP, ok_PrC, ok_PrP, ok_PrF, ok_PrN, ok_Ln, ok_CL, ok_Nw, ok_S, ok_Ks, ok_Nz]
  rw [ok_kA a5 (by decide)]
  have fin : ∀ r : Int32, r = 0 → ok (M_Ma_fail 3) s (fun _ t => (r = 0 ∨ r = 1) ∧ hsQ s n 4 r t) := fun r r0 => by
    refine ok_mono (fl_ok h.1 3) ?_
    rintro - t ⟨-, q⟩
    exact ⟨.inl r0, .inr ⟨r0, q⟩⟩
  refine ⟨fun c => ?_, fun _ => ?_⟩
  · refine ok_mono (hsL_ok (b := 1) h (.inr rfl) hm) ?_
    rintro r t ⟨et, hr, -⟩
    rw [et]
    refine ⟨fun r0 => fin r r0, fun r0 => ⟨hr, .inl ⟨?_, rfl, c⟩⟩⟩
    rcases hr with z | z
    · exact absurd z r0
    · exact z
  · refine ok_mono (hsL_ok (b := 0) h (.inl rfl) hm) ?_
    rintro r t ⟨et, hr, hz⟩
    rw [et]
    exact ⟨fun r0 => fin r r0, fun r0 => absurd (hz rfl) r0⟩
/-- the first argument is a string -/
theorem Pf.s4 {s : S1} {n : Nat × Nat} (h : Pf s n) (c : rk s 132 0 = 4) : cLv false s (rv s 132 0).toInt32 4 := by
  have := h.kv (i := 0) (by decide)
  rw [c] at this
  exact this.at4
theorem Pf.s5 {s : S1} {n : Nat × Nat} (h : Pf s n) (c : rk s 132 0 = 5) : cLv false s (rv s 132 0).toInt32 5 := by
  have := h.kv (i := 0) (by decide)
  rw [c] at this
  exact this.at5
theorem ok_bF {s : S1} {n : Nat × Nat} (h : Pf s n) (c : rk s 132 0 = 4) (Q : Int32 → S1 → Prop) : ok M_Bu_bytesOfFirst s Q ↔ Q (rv s 132 0).toInt32 s := by
  obtain ⟨l1, l2, -⟩ := h.w.len (h.s4 c)
  simp only [M_Bu_bytesOfFirst, ok_B, ok_C, ok_R, ok_L, ok_K, ok_GI, ok_GL, ok_PI, ok_PL, ok_AI, ok_AL, ok_SI, ok_SL, ok_CI, cmp_lt, cmp_le, cmp_gt, cmp_ge, cmp_eq, nar0, nar1, Sum.elim_inl, Sum.elim_inr, ok_PzT, ok_PzC, ok_PzP, ok_PrC, ok_PrP, ok_PrF, ok_PrN, ok_Ln, ok_CL, ok_Nw, ok_S, ok_Ks, ok_Nz]
  rw [ok_vA h.a5 (by decide)]
  exact ⟨fun z => z.2.2, fun z => ⟨l1, l2, z⟩⟩
theorem Pf.pr {s : S1} {n : Nat × Nat} (h : Pf s n) (c : rk s 132 0 = 4) (Q : Unit → S1 → Prop) : ok (oPr 146 (rv s 132 0).toInt32) s Q ↔ Q () s := by
  obtain ⟨⟨l0, l1⟩, l2, -⟩ := h.w.len (h.s4 c)
  rw [ok_Pr]
  refine ⟨fun z => z.2, fun z => ⟨⟨fun _ => l2, l0.1, ?_⟩, z⟩⟩
  show (rv s 132 0).toInt32.toInt.toNat < 4000
  have := l0.2
  rw [i32_lt] at this
  have e : (4000 : Int32).toInt = 4000 := rfl
  have := l0.1
  rw [i32_le] at this
  have e0 : (0 : Int32).toInt = 0 := rfl
  omega
theorem getMeta_ok {s : S1} {n : Nat × Nat} (h : Pf s n) : ok M_Bu_getMetatable s (fun _ t => Pq t n) := by
  have a5 := h.a5
  have kv := h.kv (i := 0) (by decide)
  have H := h.w.hi
  simp only [M_Bu_getMetatable, ok_B, ok_C, ok_R, ok_L, ok_K, ok_GI, ok_GL, ok_PI, ok_PL, ok_AI, ok_AL, ok_SI, ok_SL, ok_CI, cmp_lt, cmp_le, cmp_gt, cmp_ge, cmp_eq, nar0, nar1, Sum.elim_inl, Sum.elim_inr, ok_PzT, ok_PzC, ok_PzP, ok_PrC, ok_PrP, ok_PrF, ok_PrN, ok_Ln, ok_CL, ok_Nw, ok_S, ok_Ks, ok_Nz]
  rw [ok_kA a5 (by decide), ok_vA a5 (by decide)]
  refine ok_mono (findEvent_ok H _ _ 21 (fun z => by rw [z] at kv; exact kv.at5) (by decide)) ?_
  rintro p t ⟨et, hp⟩
  rw [et]
  have j : ∀ m : Int32, (m < 0 ∨ cLv false s m 5) → ok (M_Bu_getMetatable_j62 p m) s (fun _ t => Pq t n) := fun m hm => by
    simp only [M_Bu_getMetatable_j62, ok_B, ok_C, ok_R, ok_L, ok_K, ok_GI, ok_GL, ok_PI, ok_PL, ok_AI, ok_AL, ok_SI, ok_SL, ok_CI, cmp_lt, cmp_le, cmp_gt, cmp_ge, cmp_eq, nar0, nar1, Sum.elim_inl, Sum.elim_inr, ok_PzT, ok_PzC, ok_PzP, ok_PrC, ok_PrP, ok_PrF, ok_PrN, ok_Ln, ok_CL, ok_Nw, ok_S, ok_Ks, ok_Nz]
    refine ⟨fun _ => ⟨fun _ => h.1.addP (cV.lit (by decide)), fun c => ?_⟩, fun c => h.1.entry ?_⟩
    · rcases hm with z | z
      · exact absurd z c
      · exact h.1.addP (cV.obj (.inr (.inl rfl)) z.1.1 z)
    · rcases hp with z | z
      · left
        rw [z]
        decide
      · exact .inr z.2.1
  rw [ok_kA a5 (by decide)]
  refine ⟨fun c => ?_, fun _ => j _ (.inl (by decide))⟩
  have l5 := h.s5 c
  rw [ok_vA a5 (by decide)]
  exact ⟨H.1.2 _ l5.1.1 l5.1.2, j _ (H.tbv l5).1⟩
theorem readRaw_ok {s : S1} {n : Nat × Nat} (h : Pf s n) : ok M_Bu_readRaw s (fun _ t => Pq t n) := by
  have a5 := h.a5
  have H := h.w.hi
  simp only [M_Bu_readRaw, ok_B, ok_C, ok_R, ok_L, ok_K, ok_GI, ok_GL, ok_PI, ok_PL, ok_AI, ok_AL, ok_SI, ok_SL, ok_CI, cmp_lt, cmp_le, cmp_gt, cmp_ge, cmp_eq, nar0, nar1, Sum.elim_inl, Sum.elim_inr, ok_PzT, ok_PzC, ok_PzP, ok_PrC, ok_PrP, ok_PrF, ok_PrN, ok_Ln, ok_CL, ok_Nw, ok_S, ok_Ks, ok_Nz]
  refine ok_mono (hasTable_ok h) ?_
  rintro r t (⟨r1, et, c⟩ | ⟨r0, q⟩)
  · rw [et]
    refine ⟨fun z => by rw [r1] at z; exact absurd z (by decide), fun _ => ?_⟩
    rw [ok_vA a5 (by decide), ok_kA a5 (by decide), ok_vA a5 (by decide)]
    refine ok_mono (find_ok H (h.s5 c) _ _) ?_
    rintro p u ⟨eu, hp⟩
    rw [eu]
    refine h.1.entry ?_
    by_cases z : p < 0
    · exact .inl z
    · exact .inr (fd_inT (h.s5 c) hp z)
  · exact ⟨fun _ => .inr q, fun z => absurd r0 z⟩
theorem hb_mk {s t : S1} {n : Nat × Nat} (W : cW s n) (F : qFr true s) (hb : cB5 s t) : mkW s true n t := by
  have hk : cHx s t := ⟨fun f j q => hb.1 f j q.2.2.2.2.1, fun f j => by show t.2.1 f j = s.2.1 f j; rw [hb.2], fun a j k _ => by show t.2.2.1 a j k = s.2.2.1 a j k; rw [hb.2], fun a j k _ => by show t.2.2.2 a j k = s.2.2.2 a j k; rw [hb.2], fun j _ => by show t.2.2.1 _ _ _ = s.2.2.1 _ _ _; rw [hb.2]⟩
  have t13 : cTl t 13 = cTl s 13 := by
    show t.2.2.1 _ _ _ = s.2.2.1 _ _ _
    rw [hb.2]
  exact W.hx F hk (hb.hi W.hi) (hk.ro W.ro (by rw [t13]; exact Int.le_refl _) (by rw [t13]; exact W.ro.1.2.1.2))
/-- behind a maker: with no results yet -/
theorem mkW.st3 {s t : S1} {n m : Nat × Nat} (k : mkW s true m t) (h : St3 s n) (r : cRow (cLv false t) t 135) : St3 t m := by
  refine ⟨k.1, k.2.1, ?_, (k.2.2.1 _ _ (.inl (by decide))).trans h.2.2.2.1, r⟩
  rw [k.2.2.cur, k.2.2.1 18951 _ (.inr (.inr (.inl ⟨by decide, by decide, rfl⟩)))]
  exact h.2.2.1
theorem mkW.pf {s t : S1} {n m : Nat × Nat} (k : mkW s true m t) (h : Pf s n) (z : rwS s 135 = 0) : Pf t m ∧ rwS t 135 = 0 := by
  have e : rwS t 135 = 0 := (k.2.2.1 _ _ (.inl (by decide))).trans z
  refine ⟨⟨k.st3 h.1 (cRow.nil e), ?_⟩, e⟩
  rw [show rwS t 132 = rwS s 132 from k.2.2.1 _ _ (.inl (by decide))]
  exact h.2
theorem measureRaw_ok {s : S1} {n : Nat × Nat} (h : Pf s n) (z0 : rwS s 135 = 0) : ok M_Bu_measureRaw s (fun _ t => Pq t n) := by
  have a5 := h.a5
  have H := h.w.hi
  simp only [M_Bu_measureRaw, ok_B, ok_C, ok_R, ok_L, ok_K, ok_GI, ok_GL, ok_PI, ok_PL, ok_AI, ok_AL, ok_SI, ok_SL, ok_CI, cmp_lt, cmp_le, cmp_gt, cmp_ge, cmp_eq, nar0, nar1, Sum.elim_inl, Sum.elim_inr, ok_PzT, ok_PzC, ok_PzP, ok_PrC, ok_PrP, ok_PrF, ok_PrN, ok_Ln, ok_CL, ok_Nw, ok_S, ok_Ks, ok_Nz]
  rw [ok_kA a5 (by decide)]
  refine ⟨fun c => ?_, fun _ => ?_⟩
  · rw [ok_bF h c, h.pr c]
    exact h.1.addP (cV.lit (by decide))
  · refine ok_mono (hasTable_ok h) ?_
    rintro r t (⟨r1, et, c⟩ | ⟨r0, q⟩)
    · rw [et]
      refine ⟨fun z => by rw [r1] at z; exact absurd z (by decide), fun _ => ?_⟩
      rw [ok_vA a5 (by decide)]
      refine ok_mono (border_ok H (h.s5 c)) ?_
      rintro b u hb
      have mk := hb_mk h.w h.1.2.1 hb
      exact ((mk.pf h z0).1.1).addP (cV.lit (by decide))
    · exact ⟨fun _ => .inr q, fun z => absurd r0 z⟩
theorem compareRaw_ok {s : S1} {n : Nat × Nat} (h : Pf s n) : ok M_Bu_compareRaw s (fun _ t => Pq t n) := by
  have a5 := h.a5
  simp only [M_Bu_compareRaw, M_Bu_compareRaw_j44, M_Bu_compareRaw_j45, ok_B, ok_C, ok_R, ok_L, ok_K, ok_GI, ok_GL, ok_PI, ok_PL, ok_AI, ok_AL, ok_SI, ok_SL, ok_CI, cmp_lt, cmp_le, cmp_gt, cmp_ge, cmp_eq, nar0, nar1, Sum.elim_inl, Sum.elim_inr, ok_PzT, ok_PzC, ok_PzP, ok_PrC, ok_PrP, ok_PrF, ok_PrN, ok_Ln, ok_CL, ok_Nw, ok_S, ok_Ks, ok_Nz]
  rw [ok_kA a5 (by decide), ok_kA a5 (by decide)]
  refine ⟨fun _ => ?_, fun _ => h.1.truth 0⟩
  rw [ok_vA a5 (by decide), ok_vA a5 (by decide)]
  exact ⟨fun _ => h.1.truth 1, fun _ => h.1.truth 0⟩
theorem measureB_ok {s : S1} {n : Nat × Nat} (h : Pf s n) : ok M_Bu_measure s (fun _ t => Pq t n) := by
  simp only [M_Bu_measure, ok_B, ok_C, ok_R, ok_L, ok_K, ok_GI, ok_GL, ok_PI, ok_PL, ok_AI, ok_AL, ok_SI, ok_SL, ok_CI, cmp_lt, cmp_le, cmp_gt, cmp_ge, cmp_eq, nar0, nar1, Sum.elim_inl, Sum.elim_inr, ok_PzT, ok_PzC, ok_PzP, ok_PrC, ok_PrP, ok_PrF, ok_PrN, ok_Ln, ok_CL, ok_Nw, ok_S, ok_Ks, ok_Nz]
  refine ok_mono (hasString_ok h (by decide)) ?_
  rintro r t (⟨r1, et, c⟩ | ⟨r0, q⟩)
  · rw [et]
    refine ⟨fun z => by rw [r1] at z; exact absurd z (by decide), fun _ => ?_⟩
    rw [ok_bF h c, h.pr c]
    exact h.1.addP (cV.lit (by decide))
  · exact ⟨fun _ => .inr q, fun z => absurd r0 z⟩
theorem tellRunning_ok {s : S1} {n : Nat × Nat} (h : Pf s n) : ok M_Bu_tellRunning s (fun _ t => Pq t n) := by
  have W := h.w
  have ac := W.cur
  have hv : cLv false s (oSl s (mCur s)) 7 := (W.hi.2.2.2.2.1.1 _ ac.1 ac.2).1
  simp only [M_Bu_tellRunning, M_Bu_tellRunning_j39, ok_B, ok_C, ok_R, ok_L, ok_K, ok_GI, ok_GL, ok_PI, ok_PL, ok_AI, ok_AL, ok_SI, ok_SL, ok_CI, cmp_lt, cmp_le, cmp_gt, cmp_ge, cmp_eq, nar0, nar1, Sum.elim_inl, Sum.elim_inr, ok_PzT, ok_PzC, ok_PzP, ok_PrC, ok_PrP, ok_PrF, ok_PrN, ok_Ln, ok_CL, ok_Nw, ok_S, ok_Ks, ok_Nz]
  refine ⟨ac.1, ?_⟩
  refine ok_mono (h.1.add (cV.obj (.inr (.inr rfl)) ac.2 hv)) ?_
  rintro - t ⟨q, -⟩
  have ac' := q.1.cur
  exact ⟨ac'.1, fun _ => q.truth 0, fun _ => q.truth 1⟩
theorem W_name {s : S1} {n : Nat × Nat} (W : cW s n) {i : Int32} (i0 : 0 ≤ i.toInt) (i1 : i.toInt < 57) : (0 ≤ i ∧ i < 57) ∧ cV (cLv false s) 4 (gA s 115 0 i).toInt64 := by
  have h0 : 0 ≤ i := by
    rw [i32_le]
    exact i0
  have h1 : i < 57 := by
    rw [i32_lt]
    exact i1
  have w := (W.rt.2.2.2.2.2.1 i h0 h1).1
  exact ⟨⟨h0, h1⟩, cV.obj (.inl rfl) w.1.1 w⟩
theorem Pf.c7 {s : S1} {n : Nat × Nat} (h : Pf s n) (c : rk s 132 0 = 7) : cLv false s (rv s 132 0).toInt32 7 ∧ cAv s (cLk s (rv s 132 0).toInt32) := by
  have kv := h.kv (i := 0) (by decide)
  rw [c] at kv
  have l7 := kv.at7
  obtain ⟨p1, p2, p3⟩ := (h.w.hi.2.1 _ l7.1.1 l7.1.2).2.1.2.2.2.1 l7.2.1
  exact ⟨l7, p1, by rw [p2]; exact l7.1.1⟩
theorem ok_cOf {s : S1} {n : Nat × Nat} {x : Int32} (W : cW s n) (hx : cLv false s x 7) (Q : Int32 → S1 → Prop) : ok (M_Ma_coroutineOf x) s Q ↔ Q (cLk s x) s := by
  obtain ⟨p1, -, -⟩ := (W.hi.2.1 _ hx.1.1 hx.1.2).2.1.2.2.2.1 hx.2.1
  simp only [M_Ma_coroutineOf, ok_B, ok_C, ok_R, ok_L, ok_K, ok_GI, ok_GL, ok_PI, ok_PL, ok_AI, ok_AL, ok_SI, ok_SL, ok_CI, cmp_lt, cmp_le, cmp_gt, cmp_ge, cmp_eq, nar0, nar1, Sum.elim_inl, Sum.elim_inr, ok_PzT, ok_PzC, ok_PzP, ok_PrC, ok_PrP, ok_PrF, ok_PrN, ok_Ln, ok_CL, ok_Nw, ok_S, ok_Ks, ok_Nz]
  exact ⟨fun z => z.2.2, fun z => ⟨W.hi.1.2 _ hx.1.1 hx.1.2, p1, z⟩⟩
theorem tellStatus_ok {s : S1} {n : Nat × Nat} (h : Pf s n) : ok M_Bu_tellStatus s (fun _ t => Pq t n) := by
  have a5 := h.a5
  have W := h.w
  simp only [M_Bu_tellStatus, ok_B, ok_C, ok_R, ok_L, ok_K, ok_GI, ok_GL, ok_PI, ok_PL, ok_AI, ok_AL, ok_SI, ok_SL, ok_CI, cmp_lt, cmp_le, cmp_gt, cmp_ge, cmp_eq, nar0, nar1, Sum.elim_inl, Sum.elim_inr, ok_PzT, ok_PzC, ok_PzP, ok_PrC, ok_PrP, ok_PrF, ok_PrN, ok_Ln, ok_CL, ok_Nw, ok_S, ok_Ks, ok_Nz]
  refine ok_mono (hasCoroutine_ok h) ?_
  rintro r t (⟨r1, et, c⟩ | ⟨r0, q⟩)
  · rw [et]
    refine ⟨fun z => by rw [r1] at z; exact absurd z (by decide), fun _ => ?_⟩
    obtain ⟨l7, av⟩ := h.c7 c
    rw [ok_vA a5 (by decide), ok_cOf W l7]
    have st := (h.1.2.1 _ av).1.1
    have e : (53 + gI s 18951 (cLk s (rv s 132 0).toInt32)).toInt = 53 + (gI s 18951 (cLk s (rv s 132 0).toInt32)).toInt := by
      have e53 : (53 : Int32).toInt = 53 := rfl
      rw [ktI_add] <;> omega
    obtain ⟨n1, n2⟩ := W_name W (i := 53 + gI s 18951 (cLk s (rv s 132 0).toInt32)) (by omega) (by omega)
    exact ⟨av.1, n1, h.1.addP n2⟩
  · exact ⟨fun _ => .inr q, fun z => absurd r0 z⟩
