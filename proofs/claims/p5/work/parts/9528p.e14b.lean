/-! Both lookings over: one instruction is well formed in both, or in neither. -/
theorem dMk_gon {w : Int32} (h : dMk w) : gon (w &&& 63) := by
  rcases h with ⟨h, -⟩ | ⟨h, -⟩
  · unfold gon
    rw [show w &&& 63 = 36 from h]
    decide
  · unfold gon
    rw [show w &&& 63 = 45 from h]
    decide
theorem wf_eq {s t : S1} {p w : Int32} {i : Nat} (e44 : gI s 18434 p = gA t 44 0 p) (e45 : gI s 18435 p = gA t 45 0 p) (e48 : gI s 18437 p = gA t 48 0 p) (e49 : gI s 18440 p = gA t 49 0 p) (e50 : gI s 18439 p = gA t 50 0 p) (e52 : gI s 18442 p = gA t 52 0 p) (hR : 1 ≤ (gI s 18434 p).toInt ∧ (gI s 18434 p).toInt ≤ 250) (hi : (i : Int) < (gI s 18439 p).toInt) (c0 : 0 ≤ (gI s 18440 p).toInt) (cn : (gI s 18440 p).toInt + (gI s 18439 p).toInt ≤ 20000) (wk : ∀ j : Int32, (gI s 18440 p).toInt ≤ j.toInt → j.toInt < (gI s 18440 p).toInt + (gI s 18439 p).toInt → gA s 104 0 j = gA t 55 0 j) :
    wfC s p (Int32.ofNat i) w ↔ wfR t p (Int32.ofNat i) w (if gA t 50 0 p ≤ Int32.ofNat i + 1 then 0 else gA t 55 0 (gA t 49 0 p + Int32.ofNat i + 1)) := by
  have e0 : (0 : Int32).toInt = 0 := rfl
  have e1 : (1 : Int32).toInt = 1 := rfl
  have oi : (Int32.ofNat i).toInt = (i : Int) := oI (by omega)
  have gs : ∀ x, gsC s p x ↔ gsR t p x := fun x => by
    unfold gsC gsR
    rw [← e50, ← e49]
    have z : ¬ x < 0 → ¬ gI s 18439 p ≤ x → gA s 104 0 (gI s 18440 p + x) = gA t 55 0 (gI s 18440 p + x) := fun a b => by
      rw [i32_lt, e0] at a
      rw [i32_le] at b
      have e : (gI s 18440 p + x).toInt = (gI s 18440 p).toInt + x.toInt := ktI_add (by omega)
      exact wk _ (by omega) (by omega)
    exact ⟨fun q => ⟨q.1, q.2.1, by rw [← z q.1 q.2.1]; exact q.2.2⟩, fun q => ⟨q.1, q.2.1, by rw [z q.1 q.2.1]; exact q.2.2⟩⟩
  have prev : ¬ Int32.ofNat i = 0 → gA s 104 0 (gI s 18440 p + Int32.ofNat i - 1) = gA t 55 0 (gA t 49 0 p + Int32.ofNat i - 1) := fun n => by
    rw [← e49]
    have ip : 0 < i := by
      have : i ≠ 0 := fun z => n (by rw [z]; rfl)
      omega
    have e : (gI s 18440 p + Int32.ofNat i).toInt = (gI s 18440 p).toInt + i := by
      rw [ktI_add, oi]
      rw [oi]
      omega
    have e' : (gI s 18440 p + Int32.ofNat i - 1).toInt = (gI s 18440 p).toInt + i - 1 := by
      rw [ktI_sub, e, e1]
      rw [e, e1]
      omega
    exact wk _ (by omega) (by omega)
  have us : (dUs w → ¬ Int32.ofNat i = 0 ∧ dMk (gA s 104 0 (gI s 18440 p + Int32.ofNat i - 1))) ↔ (dUs w → ¬ Int32.ofNat i = 0 ∧ dMk (gA t 55 0 (gA t 49 0 p + Int32.ofNat i - 1))) := ⟨fun q u => ⟨(q u).1, by rw [← prev (q u).1]; exact (q u).2⟩, fun q u => ⟨(q u).1, by rw [prev (q u).1]; exact (q u).2⟩⟩
  have nq := nq_all (o := w &&& 63) (a := iushr w 6 &&& 255) (b := iushr w 23) (c := iushr w 14 &&& 511) (x := iushr w 14) (i := Int32.ofNat i) (R := gA t 44 0 p) (U := gA t 45 0 p) (K := gA t 48 0 p) (Z := gA t 52 0 p) (G := gsR t p) (dO_in w) ⟨dA_in w, dB_in w, dC_in w, dX_in w, by rw [← e44]; exact hR⟩
  unfold nqS at nq
  unfold wfC wfR gwC kpC
  rw [us, ← nq, e44, e45, e48, e52, gs, gs]
  have tst : (30 < w &&& 63 ∧ w &&& 63 < 36) ↔ (¬ w &&& 63 < 31 ∧ ¬ 35 < w &&& 63) := by
    have e30 : (30 : Int32).toInt = 30 := rfl
    have e31 : (31 : Int32).toInt = 31 := rfl
    have e35 : (35 : Int32).toInt = 35 := rfl
    have e36 : (36 : Int32).toInt = 36 := rfl
    rw [i32_lt, i32_lt, i32_lt, i32_lt, e30, e31, e35, e36]
    omega
  have tgon : (30 < w &&& 63 ∧ w &&& 63 < 36) → gon (w &&& 63) := fun z => by
    have e30 : (30 : Int32).toInt = 30 := rfl
    have e36 : (36 : Int32).toInt = 36 := rfl
    rw [i32_lt, i32_lt, e30, e36] at z
    refine ⟨fun y => ?_, fun y => ?_, fun y => ?_⟩
    · rw [y, e30] at z
      omega
    · rw [y] at z
      exact absurd z.2 (by decide)
    · rw [y] at z
      exact absurd z.2 (by decide)
  have nx : (Int32.ofNat i + 1).toInt = (i : Int) + 1 := by
    rw [ktI_add, oi, e1]
    rw [oi, e1]
    omega
  by_cases b : gA t 50 0 p ≤ Int32.ofNat i + 1
  · rw [if_pos b]
    have nb : ¬ Int32.ofNat i + 1 < gI s 18439 p := by
      rw [e50]
      exact Int32.not_lt.mpr b
    constructor
    · rintro ⟨h1, h2, ⟨g1, g2, g3, g4⟩, k1, k2⟩
      have ng : ¬ gon (w &&& 63) := fun z => nb (g1 z)
      exact ⟨fun _ => ng, fun m => absurd (dMk_gon m) ng, k1, fun x y => absurd (tgon (tst.2 ⟨x, y⟩)) ng, h1, h2, fun z => g3 (.inr z), g4⟩
    · rintro ⟨r1, r2, r3, r4, h1, h2, n3, n4⟩
      have ng : ¬ gon (w &&& 63) := r1 b
      exact ⟨h1, h2, ⟨fun z => absurd z ng, fun z => absurd (tgon z) ng, fun z => z.elim (fun y => absurd (tgon y) ng) n3, n4⟩, r3, fun m => absurd (dMk_gon m) ng⟩
  · rw [if_neg b]
    have lt : Int32.ofNat i + 1 < gI s 18439 p := by
      rw [e50]
      exact Int32.not_le.mp b
    have en : gA s 104 0 (gI s 18440 p + Int32.ofNat i + 1) = gA t 55 0 (gA t 49 0 p + Int32.ofNat i + 1) := by
      rw [← e49]
      have e : (gI s 18440 p + Int32.ofNat i).toInt = (gI s 18440 p).toInt + i := by
        rw [ktI_add, oi]
        rw [oi]
        omega
      have e' : (gI s 18440 p + Int32.ofNat i + 1).toInt = (gI s 18440 p).toInt + i + 1 := by
        rw [ktI_add, e, e1]
        rw [e, e1]
        omega
      rw [i32_lt, nx] at lt
      exact wk _ (by omega) (by omega)
    rw [en]
    generalize gA t 55 0 (gA t 49 0 p + Int32.ofNat i + 1) = u
    constructor
    · rintro ⟨h1, h2, ⟨g1, g2, g3, g4⟩, k1, k2⟩
      exact ⟨fun z => absurd z b, fun m => ⟨(k2 m).1, Int32.not_lt.mp (k2 m).2⟩, k1, fun x y => ⟨g2 (tst.2 ⟨x, y⟩), g3 (.inl (tst.2 ⟨x, y⟩))⟩, h1, h2, fun z => g3 (.inr z), g4⟩
    · rintro ⟨r1, r2, r3, r4, h1, h2, n3, n4⟩
      exact ⟨h1, h2, ⟨fun _ => lt, fun z => (r4 (tst.1 z).1 (tst.1 z).2).1, fun z => z.elim (fun y => (r4 (tst.1 y).1 (tst.1 y).2).2) n3, n4⟩, r3, fun m => ⟨(r2 m).1, Int32.not_lt.mpr (r2 m).2⟩⟩
