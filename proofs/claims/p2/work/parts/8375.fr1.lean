/-! The program, its threads and frames while it runs. -/
abbrev iO (w : Int32) : Int32 := w &&& 63
abbrev iA (w : Int32) : Int32 := (w >>> (6 &&& 31)) &&& 255
abbrev iC (w : Int32) : Int32 := (w >>> (14 &&& 31)) &&& 511
abbrev iB (w : Int32) : Int32 := iushr w (23 : Int32)
abbrev iX (w : Int32) : Int32 := iushr w (14 : Int32)
def us (w : Int32) : Prop := (iO w = 36 ∨ iO w = 37 ∨ iO w = 38 ∨ iO w = 43) ∧ iB w = 0
def mks (w : Int32) : Prop := (iO w = 36 ∧ iC w = 0) ∨ (iO w = 45 ∧ iB w = 0)
abbrev wd (s : S1) (p i : Int32) : Int32 := a_code s (a_codeAt s p + i)
def Gs (s : S1) (p i : Int32) : Prop := 0 ≤ i ∧ i < a_codes s p ∧ ¬ us (wd s p i)
def Rr (s : S1) (p r : Int32) : Prop := r < a_registers s p
def Rq (s : S1) (p r : Int32) : Prop := (¬ 256 ≤ r → r < a_registers s p) ∧ (256 ≤ r → r - 256 < a_consts s p)
/-- what an instruction names is there -/
def Wn (s : S1) (p i w o : Int32) : Prop :=
  ((o = 0 ∨ o = 25 ∨ o = 26 ∨ o = 27 ∨ o = 28) → Rr s p (iA w) ∧ Rr s p (iB w)) ∧ (o = 1 → Rr s p (iA w) ∧ iX w < a_consts s p) ∧ (o = 3 → Rr s p (iA w) ∧ (iC w ≠ 0 → Gs s p (i + 2))) ∧ (o = 4 → Rr s p (iA w + iB w)) ∧
  ((o = 5 ∨ o = 9) → Rr s p (iA w) ∧ iB w < a_upvalues s p) ∧ (o = 6 → Rr s p (iA w) ∧ iB w < a_upvalues s p ∧ Rq s p (iC w)) ∧ (o = 7 → Rr s p (iA w) ∧ Rr s p (iB w) ∧ Rq s p (iC w)) ∧ (o = 8 → iA w < a_upvalues s p ∧ Rq s p (iB w) ∧ Rq s p (iC w)) ∧
  (o = 10 → Rr s p (iA w) ∧ Rq s p (iB w) ∧ Rq s p (iC w)) ∧ (o = 11 → Rr s p (iA w)) ∧ (o = 12 → Rr s p (iA w + 1) ∧ Rr s p (iB w) ∧ Rq s p (iC w)) ∧ ((o = 13 ∨ o = 14 ∨ o = 15 ∨ o = 16 ∨ o = 19 ∨ o = 20 ∨ o = 21 ∨ o = 22 ∨ o = 23 ∨ o = 24) → Rr s p (iA w) ∧ Rq s p (iB w) ∧ Rq s p (iC w)) ∧
  (o = 29 → Rr s p (iA w) ∧ iB w < iC w ∧ Rr s p (iC w)) ∧ (o = 30 → (iA w ≠ 0 → Rr s p (iA w - 1)) ∧ Gs s p (i + 1 + (iX w - 131071))) ∧ ((o = 31 ∨ o = 32 ∨ o = 33) → iA w < 2 ∧ Rq s p (iB w) ∧ Rq s p (iC w)) ∧ (o = 34 → Rr s p (iA w) ∧ iC w < 2) ∧ (o = 35 → Rr s p (iA w) ∧ Rr s p (iB w) ∧ iC w < 2) ∧
  (o = 36 → Rr s p (iA w) ∧ (iB w ≠ 0 → Rr s p (iA w + iB w - 1)) ∧ (¬ iC w < 2 → Rr s p (iA w + iC w - 2))) ∧ (o = 37 → Rr s p (iA w) ∧ (iB w ≠ 0 → Rr s p (iA w + iB w - 1))) ∧ (o = 38 → Rr s p (iA w) ∧ (¬ iB w < 2 → Rr s p (iA w + iB w - 2))) ∧
  (o = 39 → Rr s p (iA w + 3) ∧ Gs s p (i + 1 + (iX w - 131071))) ∧ (o = 40 → Rr s p (iA w + 3) ∧ Gs s p (i + 1 + (iX w - 131071))) ∧ (o = 41 → 0 < iC w ∧ Rr s p (iA w + 2 + iC w)) ∧ (o = 42 → Rr s p (iA w + 1) ∧ Gs s p (i + 1 + (iX w - 131071))) ∧
  (o = 43 → 0 < iC w ∧ Rr s p (iA w) ∧ (iB w ≠ 0 → Rr s p (iA w + iB w))) ∧ (o = 44 → Rr s p (iA w) ∧ iX w < a_children s p) ∧ (o = 45 → Rr s p (iA w) ∧ (¬ iB w < 2 → Rr s p (iA w + iB w - 2))) ∧ o ≤ 45 ∧ o ≠ 2 ∧ o ≠ 17 ∧ o ≠ 18
def Wf (s : S1) (p i : Int32) : Prop :=
  (¬ i + 1 < a_codes s p → iO (wd s p i) = 30 ∨ iO (wd s p i) = 37 ∨ iO (wd s p i) = 38) ∧ (mks (wd s p i) → us (wd s p (i + 1)) ∧ (if iO (wd s p (i + 1)) = 38 then iA (wd s p (i + 1)) else iA (wd s p (i + 1)) + 1) ≤ iA (wd s p i)) ∧
  (us (wd s p i) → i ≠ 0 ∧ mks (wd s p (i - 1))) ∧ ((31 ≤ iO (wd s p i) ∧ iO (wd s p i) ≤ 35) → Gs s p (i + 2)) ∧ Wn s p i (wd s p i) (iO (wd s p i))
/-- a prototype, as it was read and looked over -/
def Pp (s : S1) (p : Int32) : Prop := (0 ≤ a_params s p ∧ a_params s p ≤ a_registers s p) ∧ (1 < a_registers s p ∧ a_registers s p < 251) ∧ (0 ≤ a_upvalues s p ∧ a_upvalues s p ≤ 60) ∧ (0 ≤ a_upAt s p ∧ a_upAt s p ≤ 30000 ∧ a_upAt s p + a_upvalues s p ≤ 30200) ∧
  (0 ≤ a_constAt s p ∧ 0 ≤ a_consts s p ∧ a_constAt s p ≤ 20000 ∧ a_consts s p ≤ 20000 ∧ a_constAt s p + a_consts s p ≤ f_constCount s) ∧ (0 ≤ a_codeAt s p ∧ 0 < a_codes s p ∧ a_codeAt s p ≤ 20000 ∧ a_codes s p ≤ 20000 ∧ a_codeAt s p + a_codes s p ≤ 20000) ∧
  (0 ≤ a_childAt s p ∧ 0 ≤ a_children s p ∧ a_childAt s p ≤ 256 ∧ a_children s p ≤ 256 ∧ a_childAt s p + a_children s p ≤ 256) ∧
  (∀ i, 0 ≤ i → i < a_codes s p → Wf s p i) ∧
  (∀ k, 0 ≤ k → k < a_children s p → (0 ≤ a_child s (a_childAt s p + k) ∧ a_child s (a_childAt s p + k) < f_protos s) ∧ ∀ j, 0 ≤ j → j < a_upvalues s (a_child s (a_childAt s p + k)) → (0 ≤ a_ups s (a_upAt s (a_child s (a_childAt s p + k)) + j)) ∧ (a_ups s (a_upAt s (a_child s (a_childAt s p + k)) + j) < 256 → a_ups s (a_upAt s (a_child s (a_childAt s p + k)) + j) < a_upvalues s p) ∧
    (¬ a_ups s (a_upAt s (a_child s (a_childAt s p + k)) + j) < 256 → (a_ups s (a_upAt s (a_child s (a_childAt s p + k)) + j) &&& 255) < a_registers s p))
def Pg (s : S1) : Prop := (1 ≤ f_protos s ∧ f_protos s ≤ 250) ∧ (0 ≤ f_constCount s ∧ f_constCount s ≤ 20000) ∧ ∀ p, 0 ≤ p → p < f_protos s → Pp s p
def Kc (s : S1) (i : Int32) : Prop := (0 ≤ v_constants_k s i ∧ v_constants_k s i < 4) ∨ (v_constants_k s i = 4 ∧ 0 ≤ v_constants_v s i ∧ v_constants_v s i < 4100 ∧ FL s (v_constants_v s i).toInt32)
def Fx4 (s : S1) : Prop := (∀ i, 0 ≤ i → i < 22 → FL s (a_event s i)) ∧ (∀ i, 0 ≤ i → i < 7 → FL s (a_kindName s i)) ∧ (∀ i, 0 ≤ i → i < 4 → FL s (a_stateName s i)) ∧ ∀ i, 0 ≤ i → i < f_constCount s → Kc s i
/-- threads: who waits for whom -/
def Ths (s : S1) : Prop := (0 ≤ f_current s ∧ f_current s < 33) ∧ t_state s (f_current s) = 1 ∧ (∀ u, 0 ≤ u → u < 33 → 0 ≤ t_place s u → t_resumer s u ≠ -1 → ∃ n, chN s n = u) ∧ (∀ n, 0 < n → 0 ≤ chN s n → t_state s (chN s n) = 2 ∧ 0 < t_frames s (chN s n) ∧ (t_kind s (chN s n) (t_frames s (chN s n) - 1) = 2 ∨ t_kind s (chN s n) (t_frames s (chN s n) - 1) = 3)) ∧
  (∀ u, 0 ≤ u → u < 33 → 0 ≤ t_place s u → (t_state s u = 1 ∨ t_state s u = 2) → ∃ n, chN s n = u) ∧ (∀ n, 0 ≤ chN s n → chN s n ≠ 0 → t_resumer s (chN s n) ≠ -1) ∧ t_resumer s 0 = -1 ∧ 0 ≤ t_place s 0 ∧ (∀ n, 0 ≤ chN s n → 0 ≤ t_place s (chN s n)) ∧
  (∀ u, 0 ≤ u → u < 33 → 0 ≤ t_place s u → 0 ≤ t_state s u ∧ t_state s u < 4) ∧ (∀ u, 0 ≤ u → u < 33 → 0 ≤ t_place s u → u ≠ 0 → t_begun s u = 0 → t_state s u = 0 ∧ 0 < v_start_n s u)
abbrev pf (s : S1) (t f : Int32) : Int32 := a_first s (t_function s t f)
/-- a frame that waits for what it called -/
def Wt (s : S1) (t f : Int32) : Prop := 1 ≤ t_pc s t f ∧ t_rowCount s t f = 0 ∧
  ((t_mode s t f = 0 ∧ ((t_want s t f < 0 ∧ t_into s t f = iA (wd s (pf s t f) (t_pc s t f - 1)) ∧ mks (wd s (pf s t f) (t_pc s t f - 1))) ∨ (0 ≤ t_want s t f ∧ 0 ≤ t_into s t f ∧ t_into s t f ≤ 300 ∧ t_want s t f ≤ 600 ∧ t_into s t f + t_want s t f ≤ a_registers s (pf s t f) ∧ ¬ us (wd s (pf s t f) (t_pc s t f))))) ∨
   (t_mode s t f = 1 ∧ 0 ≤ t_into s t f ∧ t_into s t f < a_registers s (pf s t f) ∧ ¬ us (wd s (pf s t f) (t_pc s t f))) ∨
   (t_mode s t f = 2 ∧ ¬ us (wd s (pf s t f) (t_pc s t f)) ∧ Gs s (pf s t f) (t_pc s t f + 1)) ∨ (t_mode s t f = 3 ∧ ¬ us (wd s (pf s t f) (t_pc s t f))) ∨
   (t_mode s t f = 4 ∧ ¬ us (wd s (pf s t f) (t_pc s t f)) ∧ iO (wd s (pf s t f) (t_pc s t f - 1)) = 29 ∧ iB (wd s (pf s t f) (t_pc s t f - 1)) ≤ t_step s t f ∧ t_step s t f < iC (wd s (pf s t f) (t_pc s t f - 1))))
def Fi (τ : Bool) (s : S1) (t f : Int32) : Prop := (0 ≤ t_kind s t f ∧ t_kind s t f ≤ 4) ∧ (t_kind s t f = 0 → t_extra s t f ≤ 250 ∧ ((f < t_frames s t - 1 ∨ t ≠ f_current s ∨ τ = true) → (0 ≤ t_pc s t f ∧ t_pc s t f < a_codes s (pf s t f)) ∧ Wt s t f))
def Fr (τ : Bool) (s : S1) : Prop := Pg s ∧ Fx4 s ∧ Ths s ∧ ∀ t, 0 ≤ t → t < 33 → 0 ≤ t_place s t → ∀ f, 0 ≤ f → f < t_frames s t → Fi τ s t f
/-- what the frames read -/
def feI (f : Nat) : Bool := [23, 25, 72, 3585, 3586, 3589, 3590, 3202].contains f
def feA (a : Nat) : Bool := [2, 30, 31, 32, 34, 35, 36, 37, 38, 39, 40, 42, 43, 44, 45, 46, 47, 48, 49, 50, 51, 52, 53, 54, 55, 82, 83, 84].contains a
def Fe (s s' : S1) : Prop := (∀ f i, feI f = true → gI s' f i = gI s f i) ∧ (∀ a i j, feA a = true → gA s' a i j = gA s a i j) ∧ (∀ i j, gB s' 3 i j = gB s 3 i j) ∧ (∀ t, 0 ≤ t → t < 33 → 0 ≤ t_place s' t → 0 ≤ t_place s t) ∧ (∀ n, 0 ≤ chN s n → 0 ≤ t_place s' (chN s n)) ∧ 0 ≤ t_place s' 0 ∧
  (∀ t f, 0 ≤ t → t < 33 → 0 ≤ t_place s' t → 0 ≤ f → f < t_frames s t → t_kind s t f = 0 → pf s' t f = pf s t f) ∧ ∀ x, FL s x → FL s' x
theorem Fe.I {s s' : S1} (h : Fe s s') (f : Nat) (hf : feI f = true) (i : Int32) : gI s' f i = gI s f i := h.1 f i hf
theorem Fe.A {s s' : S1} (h : Fe s s') (f : Nat) (hf : feA f = true) (i j : Int32) : gA s' f i j = gA s f i j := h.2.1 f i j hf
theorem Fe.ch {s s' : S1} (h : Fe s s') (n : Nat) : chN s' n = chN s n := chN_I (h.I 72 (by decide) 0) (h.I 3590 (by decide)) n
theorem Fe.trans {a b c : S1} (h : Fe a b) (k : Fe b c) : Fe a c := by
  have hc := h.ch
  obtain ⟨h1, h2, h3, h4, h5, h6, h7, h8⟩ := id h
  obtain ⟨k1, k2, k3, k4, k5, k6, k7, k8⟩ := k
  refine ⟨fun f i q => (k1 f i q).trans (h1 f i q), fun f i j q => (k2 f i j q).trans (h2 f i j q), fun i j => (k3 i j).trans (h3 i j), fun t a b d => h4 t a b (k4 t a b d), fun n q => ?_, k6, fun t f a0 b0 d e g i => ?_, fun x q => k8 x (h8 x q)⟩
  · rw [← hc]
    exact k5 n (by rw [hc]; exact q)
  · have e1 : t_frames b t = t_frames a t := h.I 3586 (by decide) t
    have e2 : t_kind b t f = t_kind a t f := h.A 30 (by decide) t f
    exact (k7 t f a0 b0 d e (by rw [e1]; exact g) (by rw [e2]; exact i)).trans (h7 t f a0 b0 (k4 t a0 b0 d) e g i)
theorem Wf.fe {s s' : S1} {p i : Int32} (hs : Fe s s') : Wf s' p i ↔ Wf s p i := by
  unfold Wf Wn Gs Rr Rq
  simp only [a_registers, a_upvalues, a_consts, a_codeAt, a_codes, a_children, a_code, hs.A 44 (by decide), hs.A 45 (by decide), hs.A 48 (by decide), hs.A 49 (by decide), hs.A 50 (by decide), hs.A 52 (by decide), hs.A 55 (by decide)]
theorem Pg.fe {s s' : S1} (hs : Fe s s') : Pg s' ↔ Pg s := by
  unfold Pg Pp
  simp only [Wf.fe hs]
  simp only [f_protos, f_constCount, a_params, a_registers, a_upvalues, a_upAt, a_constAt, a_consts, a_codeAt, a_codes, a_childAt, a_children, a_ups, a_child, hs.I 23 (by decide), hs.I 25 (by decide), hs.A 42 (by decide), hs.A 44 (by decide), hs.A 45 (by decide), hs.A 46 (by decide), hs.A 47 (by decide), hs.A 48 (by decide), hs.A 49 (by decide), hs.A 50 (by decide), hs.A 51 (by decide), hs.A 52 (by decide), hs.A 53 (by decide), hs.A 54 (by decide)]
theorem Fx4.fe {s s' : S1} (h : Fx4 s) (hs : Fe s s') : Fx4 s' := by
  obtain ⟨h1, h2, h3, h4⟩ := h
  have fl := hs.2.2.2.2.2.2.2
  refine ⟨fun i a b => ?_, fun i a b => ?_, fun i a b => ?_, fun i a b => ?_⟩
  · show FL s' (gA s' 82 0 i)
    rw [hs.A 82 (by decide)]
    exact fl _ (h1 i a b)
  · show FL s' (gA s' 83 0 i)
    rw [hs.A 83 (by decide)]
    exact fl _ (h2 i a b)
  · show FL s' (gA s' 84 0 i)
    rw [hs.A 84 (by decide)]
    exact fl _ (h3 i a b)
  · have b' : i < gI s' 25 0 := b
    rw [hs.I 25 (by decide)] at b'
    have := h4 i a b'
    unfold Kc at *
    simp only [v_constants_k, v_constants_v, hs.A 2 (by decide), hs.2.2.1] at *
    exact this.imp id fun w => ⟨w.1, w.2.1, w.2.2.1, fl _ w.2.2.2⟩
theorem Ths.fe {s s' : S1} (h : Ths s) (hs : Fe s s') : Ths s' := by
  have hc := hs.ch
  have h4 := hs.2.2.2.1
  have h5 := hs.2.2.2.2.1
  have h6 := hs.2.2.2.2.2.1
  unfold Ths at *
  simp only [hc]
  simp only [f_current, t_state, t_resumer, t_frames, t_kind, t_begun, v_start_n, hs.I 72 (by decide), hs.I 3585 (by decide), hs.I 3586 (by decide), hs.I 3589 (by decide), hs.I 3590 (by decide), hs.I 3202 (by decide), hs.A 30 (by decide)] at *
  obtain ⟨t1, t2, t3, t4, t5, t6, t7, t8, t9, t10, t11⟩ := h
  exact ⟨t1, t2, fun u a b c => t3 u a b (h4 u a b c), t4, fun u a b c => t5 u a b (h4 u a b c), t6, t7, h6, h5, fun u a b c => t10 u a b (h4 u a b c), fun u a b c => t11 u a b (h4 u a b c)⟩
theorem Fi.fe {τ : Bool} {s s' : S1} {t f : Int32} (h : Fi τ s t f) (hs : Fe s s') (ht : (0 ≤ t ∧ t < 33) ∧ 0 ≤ t_place s' t) (hf : 0 ≤ f ∧ f < t_frames s t) : Fi τ s' t f := by
  have hp := hs.2.2.2.2.2.2.1 t f ht.1.1 ht.1.2 ht.2 hf.1 hf.2
  unfold Fi Wt Gs at *
  by_cases c : t_kind s t f = 0
  · rw [hp c]
    simp only [a_registers, a_codeAt, a_codes, a_code, f_current, t_frames, t_kind, t_pc, t_extra, t_rowCount, t_mode, t_into, t_want, t_step, hs.I 72 (by decide), hs.I 3586 (by decide), hs.A 30 (by decide), hs.A 32 (by decide), hs.A 34 (by decide), hs.A 36 (by decide), hs.A 37 (by decide), hs.A 38 (by decide), hs.A 39 (by decide), hs.A 40 (by decide), hs.A 44 (by decide), hs.A 49 (by decide), hs.A 50 (by decide), hs.A 55 (by decide)] at *
    exact h
  · have e : t_kind s' t f = t_kind s t f := hs.A 30 (by decide) t f
    rw [e]
    exact ⟨h.1, fun z => absurd z c⟩
theorem Fr.fe {τ : Bool} {s s' : S1} (h : Fr τ s) (hs : Fe s s') : Fr τ s' := by
  obtain ⟨h1, h2, h3, h4⟩ := h
  refine ⟨(Pg.fe hs).mpr h1, h2.fe hs, h3.fe hs, fun t a b c f d e => ?_⟩
  have e' : f < t_frames s t := by
    have e1 : t_frames s' t = t_frames s t := hs.I 3586 (by decide) t
    rw [← e1]
    exact e
  exact (h4 t a b (hs.2.2.2.1 t a b c) f d e').fe hs ⟨⟨a, b⟩, c⟩ ⟨d, e'⟩
/-- writes beside the frames -/
def hzI (f : Nat) : Bool := feI f || [40, 3584].contains f
def hzA (a : Nat) : Bool := feA a || [58, 60, 62].contains a
def Hz (s s' : S1) : Prop := (∀ f i, hzI f = true → gI s' f i = gI s f i) ∧ (∀ a i j, hzA a = true → gA s' a i j = gA s a i j) ∧ ∀ i j, gB s' 3 i j = gB s 3 i j
theorem FL.hz {s s' : S1} {x : Int32} (h : FL s x) (hs : Hz s s') : FL s' x := by
  unfold FL Lv at *
  simp only [f_used, a_sort, a_fixed, hs.1 40 _ (by decide), hs.2.1 58 _ _ (by decide), hs.2.1 60 _ _ (by decide)] at *
  exact ⟨⟨h.1.1, h.1.2.1, h.1.2.2.1, fun z => by cases z⟩, h.2⟩
theorem Hz.fe {s s' : S1} (h : Hz s s') (ht : Ths s) : Fe s s' := by
  have eP : ∀ t, t_place s' t = t_place s t := fun t => h.1 3584 t (by decide)
  refine ⟨fun f i q => h.1 f i (by unfold hzI; rw [q]; rfl), fun a i j q => h.2.1 a i j (by unfold hzA; rw [q]; rfl), h.2.2, fun t _ _ q => by rw [← eP]; exact q, fun n q => ?_, ?_, fun t f _ _ _ _ _ _ => ?_, fun x q => q.hz h⟩
  · rw [eP]
    exact ht.2.2.2.2.2.2.2.2.1 n q
  · rw [eP]
    exact ht.2.2.2.2.2.2.2.1
  · show gA s' 62 0 (gA s' 31 t f) = gA s 62 0 (gA s 31 t f)
    rw [h.2.1 31 _ _ (by decide), h.2.1 62 _ _ (by decide)]
theorem Hz.refl (s : S1) : Hz s s := ⟨fun _ _ _ => rfl, fun _ _ _ _ => rfl, fun _ _ => rfl⟩
theorem Hz.sI {s s' : S1} (h : Hz s s') {f : Nat} {i x : Int32} (hf : hzI f = false) : Hz s (sI s' f i x) := ⟨fun g j hg => by
  rw [gI_sI, if_neg]
  · exact h.1 g j hg
  · rintro ⟨w, -⟩
    rw [w, hf] at hg
    exact absurd hg (by decide), h.2.1, h.2.2⟩
theorem Hz.sL {s s' : S1} (h : Hz s s') {f : Nat} {i : Int32} {x : Int64} : Hz s (sL s' f i x) := h
theorem Hz.sA {s s' : S1} (h : Hz s s') {f : Nat} {i j x : Int32} (hf : hzA f = false) : Hz s (sA s' f i j x) := ⟨h.1, fun g u v hg => by
  rw [gA_sA, if_neg]
  · exact h.2.1 g u v hg
  · rintro ⟨w, -⟩
    rw [w, hf] at hg
    exact absurd hg (by decide), h.2.2⟩
theorem Hz.sB {s s' : S1} (h : Hz s s') {f : Nat} {i j : Int32} {x : Int64} (hf : f ≠ 3) : Hz s (sB s' f i j x) := ⟨h.1, h.2.1, fun u v => by
  rw [gB_sB, if_neg (fun w => hf w.1.symm)]
  exact h.2.2 u v⟩
theorem Fr.hz {τ : Bool} {s s' : S1} (h : Fr τ s) (hs : Hz s s') : Fr τ s' := h.fe (hs.fe h.2.2.1)
/-- a frame's function lives -/
theorem Hq.fn {s : S1} (h : Hq s) {t f : Int32} (ht : 0 ≤ t ∧ t < 33) (hp : 0 ≤ t_place s t) (hf : 0 ≤ f ∧ f < t_frames s t) (hk : t_kind s t f = 0) : Lv false s (t_function s t f) 6 ∧ 0 ≤ pf s t f := by
  obtain ⟨w1, w2⟩ := h.2.2.2.2.2.1 t ht.1 ht.2 hp
  obtain ⟨⟨-, -, q7, -⟩, -, -, p7, -⟩ := h.1.2.2 _ w1.1 w1.2.1
  have q := q7 w1.2.2.1
  have p := p7 w1.2.2.1
  rw [w2] at q p
  have r := q.2.2.2.2.2.2 f hf.1 hf.2 hk
  exact ⟨(p.2.1 f hf.1 hf.2).1 r.1.1, r.2.1.1⟩
theorem Fe.gcx {s s' : S1} (hq : Gm s') (hz : f_noCollection s = 0) (hg : Gcx s s') (hh : Hq s) (ht : Ths s) : Fe s s' := by
  have e92 : f_noCollection s' = 0 := (hg.I 92 (by decide) 0).trans hz
  have hrv := (hq.2 e92).2
  have eP : ∀ t, 0 ≤ t_place s' t → t_place s' t = t_place s t := fun t a => by
    rcases hg.pt.1 t with w | w
    · exact w
    · rw [w] at a
      exact absurd a (by decide)
  have hc := fun n => chN_I (hg.I 72 (by decide) 0) (hg.I 3590 (by decide)) n
  refine ⟨fun f i q => ?_, fun a i j q => ?_, fun i j => hg.2.2.2.1 3 i j (by decide), fun t _ _ q => by rw [← eP t q]; exact q, fun n q => ?_, hrv.2.1.1, fun t f a b c d e g => ?_, fun x q => q.gcx hg⟩
  · refine hg.I f ?_ i
    unfold feI at q
    simp only [List.contains_eq_mem, List.mem_cons, List.not_mem_nil, or_false, decide_eq_true_eq] at q
    omega
  · refine hg.A a ?_ i j
    unfold feA at q
    simp only [List.contains_eq_mem, List.mem_cons, List.not_mem_nil, or_false, decide_eq_true_eq] at q
    omega
  · have := hrv.2.2.1 n (by rw [hc]; exact q)
    rw [hc] at this
    exact this.1
  · have c' : 0 ≤ t_place s t := by
      rw [← eP t c]
      exact c
    have l := (hh.fn ⟨a, b⟩ c' ⟨d, e⟩ g).1
    show gA s' 62 0 (gA s' 31 t f) = gA s 62 0 (gA s 31 t f)
    rw [hg.A 31 (by decide)]
    exact hg.2.2.2.2.1 _ (by
      have := l.2.2.1
      show gA s 58 0 _ ≠ 8
      simp only [a_sort] at this
      rw [this]
      decide)
theorem Fe.mk2 {s s' : S1} {x k : Int32} (hM : Mk2 s s' x k) (hh : Hq s) (ht : Ths s) : Fe s s' := by
  have eP : ∀ t, t_place s' t = t_place s t := fun t => hM.I 3584 (by decide) t
  refine ⟨fun f i q => ?_, fun a i j q => ?_, fun i j => hM.B 3 (by decide) i j, fun t _ _ q => by rw [← eP]; exact q, fun n q => ?_, ?_, fun t f a b c d e g => ?_, fun x q => q.mk2 hM⟩
  · refine hM.I f ?_ i
    unfold feI at q
    simp only [List.contains_eq_mem, List.mem_cons, List.not_mem_nil, or_false, decide_eq_true_eq] at q
    omega
  · refine hM.A a ?_ i j
    unfold feA at q
    simp only [List.contains_eq_mem, List.mem_cons, List.not_mem_nil, or_false, decide_eq_true_eq] at q
    omega
  · rw [eP]
    exact ht.2.2.2.2.2.2.2.2.1 n q
  · rw [eP]
    exact ht.2.2.2.2.2.2.2.1
  · rw [eP] at c
    have l := (hh.fn ⟨a, b⟩ c ⟨d, e⟩ g).1
    show a_first s' (gA s' 31 t f) = a_first s (gA s 31 t f)
    rw [hM.A 31 (by decide)]
    exact (hM.P (hM.ne l (by decide))).1
