/-! How much there is still to do: numbers of frames, of joinings, of threads that wait. -/
theorem sum_le {N : Nat} {f g : Nat → Nat} (h : ∀ n, n < N → g n ≤ f n) : ((List.range N).map g).sum ≤ ((List.range N).map f).sum := by
  induction N with
  | zero => exact Nat.le_refl _
  | succ N ih =>
    rw [List.range_succ, List.map_append, List.map_append, List.sum_append, List.sum_append]
    have a := ih (fun n q => h n (by omega))
    have b := h N (by omega)
    simp only [List.map_cons, List.map_nil, List.sum_cons, List.sum_nil]
    omega
theorem sum_eq {N : Nat} {f g : Nat → Nat} (h : ∀ n, n < N → g n = f n) : ((List.range N).map g).sum = ((List.range N).map f).sum := Nat.le_antisymm (sum_le fun n q => Nat.le_of_eq (h n q)) (sum_le fun n q => Nat.le_of_eq (h n q).symm)
theorem sum_lt {N k : Nat} {f g : Nat → Nat} (hk : k < N) (h : ∀ n, n < N → g n ≤ f n) (hl : g k < f k) : ((List.range N).map g).sum < ((List.range N).map f).sum := by
  induction N with
  | zero => omega
  | succ N ih =>
    rw [List.range_succ, List.map_append, List.map_append, List.sum_append, List.sum_append]
    have b := h N (by omega)
    simp only [List.map_cons, List.map_nil, List.sum_cons, List.sum_nil]
    by_cases c : k = N
    · have a := sum_le (N := N) (f := f) (g := g) (fun n q => h n (by omega))
      rw [c] at hl
      omega
    · have a := ih (by omega) (fun n q => h n (by omega))
      omega
theorem sum_up {N b : Nat} {f : Nat → Nat} (h : ∀ n, n < N → f n ≤ b) : ((List.range N).map f).sum ≤ N * b := by
  induction N with
  | zero => exact Nat.zero_le _
  | succ N ih =>
    rw [List.range_succ, List.map_append, List.sum_append, Nat.succ_mul]
    have a := ih (fun n q => h n (by omega))
    have b := h N (by omega)
    simp only [List.map_cons, List.map_nil, List.sum_cons, List.sum_nil]
    omega
def fN (s : S1) (t : Int32) : Nat := min (t_frames s t).toNatClampNeg 200
def sF (s : S1) : Nat := ((List.range 33).map fun n => fN s (Int32.ofNat n)).sum
def q_jf (s : S1) (t f : Int32) : Nat := if t_kind s t f = 0 ∧ t_mode s t f = 4 then min (t_step s t f + 1).toNatClampNeg 512 else 0
def jt (s : S1) (t : Int32) : Nat := ((List.range (fN s t)).map fun n => q_jf s t (Int32.ofNat n)).sum
def jA (s : S1) : Nat := ((List.range 33).map fun n => jt s (Int32.ofNat n)).sum
def rN (s : S1) : Nat := ((List.range 33).map fun n => if t_resumer s (Int32.ofNat n) = -1 then 0 else 1).sum
theorem ms_same {s z : S1} (hI : ∀ i, gI z 3586 i = gI s 3586 i) (hA : ∀ a i j, a = 30 ∨ a = 37 ∨ a = 40 → gA z a i j = gA s a i j) : jA z = jA s ∧ sF z = sF s := by
  unfold jA sF jt q_jf fN
  simp only [t_frames, t_kind, t_mode, t_step, hI, hA 30 _ _ (Or.inl rfl), hA 37 _ _ (Or.inr (Or.inl rfl)), hA 40 _ _ (Or.inr (Or.inr rfl))]
  exact ⟨trivial, trivial⟩
theorem rn_same {s z : S1} (h : ∀ i, gI z 3590 i = gI s 3590 i) : rN z = rN s := by
  unfold rN
  simp only [t_resumer, h]
theorem Fs.ms {s z : S1} (h : Fs s z) : jA z = jA s ∧ sF z = sF s := ms_same (fun i => h.I 3586 (by decide) i) (fun a i j q => by rcases q with e | e | e <;> subst e <;> exact h.A _ (by decide) i j)
theorem Fs.rn {s z : S1} (h : Fs s z) : rN z = rN s := rn_same fun i => h.I 3590 (by decide) i
theorem Rx.ms {s z : S1} (h : Rx s z) : jA z = jA s ∧ sF z = sF s := h.2.2.2.ms
theorem Rx.rn {s z : S1} (h : Rx s z) : rN z = rN s := h.2.2.2.rn
theorem clampS {n : Int32} (h : 0 ≤ n ∧ n ≤ 200) : (n + 1).toNatClampNeg = n.toNatClampNeg + 1 := by
  have c0 : (0 : Int32).toInt = 0 := rfl
  have c1 : (1 : Int32).toInt = 1 := rfl
  have c2 : (200 : Int32).toInt = 200 := rfl
  obtain ⟨h1, h2⟩ := h
  rw [i32_le] at h1 h2
  rw [c0] at h1
  rw [c2] at h2
  have e : (n + 1).toInt = n.toInt + 1 := tI_add (by omega)
  unfold Int32.toNatClampNeg
  rw [e]
  omega
theorem clampL {n : Int32} (h : 0 ≤ n ∧ n ≤ 200) : n.toNatClampNeg ≤ 200 := by
  have c2 : (200 : Int32).toInt = 200 := rfl
  have h2 := h.2
  rw [i32_le, c2] at h2
  unfold Int32.toNatClampNeg
  omega
theorem fN_of {s : S1} {t : Int32} (h : 0 ≤ t_frames s t ∧ t_frames s t ≤ 200) : fN s t = (t_frames s t).toNatClampNeg := Nat.min_eq_left (clampL h)
theorem ofNat_in {n : Nat} {t : Int32} (ht : 0 ≤ t ∧ t ≤ 200) (h : n < t.toNatClampNeg) : 0 ≤ Int32.ofNat n ∧ Int32.ofNat n < t := by
  have c0 : (0 : Int32).toInt = 0 := rfl
  have c2 : (200 : Int32).toInt = 200 := rfl
  obtain ⟨h1, h2⟩ := ht
  rw [i32_le] at h1 h2
  rw [c0] at h1
  rw [c2] at h2
  unfold Int32.toNatClampNeg at h
  rw [i32_le, i32_lt, c0, Int32.toInt_ofNat_of_lt (by omega)]
  omega
/-- a frame that is no function's is pushed: one frame more, the same joinings -/
theorem Ph.ms {s s' : S1} {k fn : Int32} (hs : Ph s s' k fn) (hk : k ≠ 0) (hc : 0 ≤ cu s ∧ cu s < 33) (hn : 0 ≤ t_frames s (cu s) ∧ t_frames s (cu s) ≤ 200) (h2 : t_frames s (cu s) ≠ 200) : jA s' = jA s ∧ sF s < sF s' ∧ rN s' = rN s := by
  have ef : ∀ t, t ≠ cu s → t_frames s' t = t_frames s t := fun t q => hs.1 3586 t (Or.inr q)
  have e0 : fN s (cu s) = (t_frames s (cu s)).toNatClampNeg := fN_of hn
  have e1 : fN s' (cu s) = fN s (cu s) + 1 := by
    obtain ⟨n1, -⟩ := ph_num hn h2
    have w : 0 ≤ t_frames s' (cu s) ∧ t_frames s' (cu s) ≤ 200 := by
      rw [hs.2.1]
      exact n1
    rw [fN_of w, e0, hs.2.1]
    exact clampS hn
  have c33 : (33 : Int32).toNatClampNeg = 33 := rfl
  have hl := clamp_lt hc.1 hc.2
  rw [c33] at hl
  refine ⟨sum_eq fun n q => ?_, sum_lt (k := (cu s).toNatClampNeg) hl (fun n q => ?_) ?_, rn_same fun i => hs.I 3590 (by decide) i⟩
  · by_cases c : Int32.ofNat n = cu s
    · rw [c]
      unfold jt
      rw [e1, List.range_succ, List.map_append, List.sum_append]
      have z : q_jf s' (cu s) (Int32.ofNat (fN s (cu s))) = 0 := by
        unfold q_jf
        rw [e0, q_ofNat_clamp hn.1, hs.2.2.2.2.2.1, if_neg (fun w => hk w.1)]
      simp only [List.map_cons, List.map_nil, List.sum_cons, List.sum_nil]
      rw [z]
      refine (sum_eq (N := fN s (cu s)) fun m p => ?_)
      rw [e0] at p
      have lt := (ofNat_in hn p).2
      have r := fun a => hs.F (t := cu s) (j := Int32.ofNat m) (Or.inr (fun w => by rw [w] at lt; exact absurd lt Int32.lt_irrefl)) a
      unfold q_jf
      simp only [t_kind, t_mode, t_step, r]
    · unfold jt fN
      rw [ef _ c]
      refine sum_eq fun m p => ?_
      have r := fun a => hs.F (t := Int32.ofNat n) (j := Int32.ofNat m) (Or.inl c) a
      unfold q_jf
      simp only [t_kind, t_mode, t_step, r]
  · by_cases c : Int32.ofNat n = cu s
    · rw [c, e1]
      exact Nat.le_succ _
    · unfold fN
      rw [ef _ c]
      exact Nat.le_refl _
  · rw [q_ofNat_clamp hc.1, e1]
    exact Nat.lt_succ_self _
/-- frames are cut: no more joinings -/
theorem cut_ms {s s' : S1} {t : Int32} (hI : ∀ i, i ≠ t → gI s' 3586 i = gI s 3586 i) (hA : ∀ a i j, a = 30 ∨ a = 37 ∨ a = 40 → gA s' a i j = gA s a i j) (hle : fN s' t ≤ fN s t) : jA s' ≤ jA s ∧ sF s' ≤ sF s := by
  have ef : ∀ u, u ≠ t → fN s' u = fN s u := fun u q => by
    unfold fN
    simp only [t_frames, hI u q]
  have ej : ∀ u f, q_jf s' u f = q_jf s u f := fun u f => by
    unfold q_jf
    simp only [t_kind, t_mode, t_step, hA 30 _ _ (Or.inl rfl), hA 37 _ _ (Or.inr (Or.inl rfl)), hA 40 _ _ (Or.inr (Or.inr rfl))]
  have mono : ∀ {N M : Nat} (f : Nat → Nat), N ≤ M → ((List.range N).map f).sum ≤ ((List.range M).map f).sum := fun {N M} f h => by
    induction M with
    | zero =>
      have : N = 0 := by omega
      rw [this]
      exact Nat.le_refl _
    | succ M ih =>
      by_cases c : N = M + 1
      · rw [c]
        exact Nat.le_refl _
      · rw [List.range_succ, List.map_append, List.sum_append]
        have := ih (by omega)
        omega
  refine ⟨sum_le fun n _ => ?_, sum_le fun n _ => ?_⟩
  · by_cases c : Int32.ofNat n = t
    · rw [c]
      unfold jt
      simp only [ej]
      exact mono _ hle
    · unfold jt
      rw [ef _ c]
      simp only [ej]
      exact Nat.le_refl _
  · by_cases c : Int32.ofNat n = t
    · rw [c]
      exact hle
    · rw [ef _ c]
      exact Nat.le_refl _
theorem cut_lt {s s' : S1} {t : Int32} (ht : 0 ≤ t ∧ t < 33) (hI : ∀ i, i ≠ t → gI s' 3586 i = gI s 3586 i) (hlt : fN s' t < fN s t) : sF s' < sF s := by
  have c33 : (33 : Int32).toNatClampNeg = 33 := rfl
  have hl := clamp_lt ht.1 ht.2
  rw [c33] at hl
  refine sum_lt (k := t.toNatClampNeg) hl (fun n _ => ?_) ?_
  · by_cases c : Int32.ofNat n = t
    · rw [c]
      exact Nat.le_of_lt hlt
    · unfold fN
      simp only [t_frames, hI _ c]
      exact Nat.le_refl _
  · rw [q_ofNat_clamp ht.1]
    exact hlt
theorem sF_le (s : S1) : sF s ≤ 6600 := sum_up (N := 33) (b := 200) fun _ _ => Nat.min_le_right _ _
theorem jA_le (s : S1) : jA s ≤ 3379200 := by
  refine sum_up (N := 33) (b := 102400) fun n _ => ?_
  have h1 : fN s (Int32.ofNat n) ≤ 200 := Nat.min_le_right _ _
  have h2 : jt s (Int32.ofNat n) ≤ fN s (Int32.ofNat n) * 512 := sum_up fun m _ => by
    show q_jf s _ _ ≤ 512
    unfold q_jf
    by_cases c : t_kind s (Int32.ofNat n) (Int32.ofNat m) = 0 ∧ t_mode s (Int32.ofNat n) (Int32.ofNat m) = 4
    · rw [if_pos c]
      exact Nat.min_le_right _ _
    · rw [if_neg c]
      exact Nat.zero_le _
  omega
theorem rN_le (s : S1) : rN s ≤ 33 := by
  have h := sum_up (N := 33) (b := 1) (f := fun n => if t_resumer s (Int32.ofNat n) = -1 then 0 else 1) fun n _ => by
    by_cases c : t_resumer s (Int32.ofNat n) = -1
    · simp only [c, if_true]
      omega
    · simp only [c, if_false]
      omega
  unfold rN
  omega
