/-! Both lookings over: what is asked of one instruction. -/
theorem sh_and (w : Int32) (n : Nat) (m : Int32) (k : Nat) (hk : n + k ≤ 32) (hm : ∀ i, i < 32 → ¬ i < k → m.toBitVec.getLsbD i = false) : BitVec.sshiftRight w.toBitVec n &&& m.toBitVec = (w.toBitVec >>> n) &&& m.toBitVec := by
  apply BitVec.eq_of_getLsbD_eq
  intro i hi
  rw [BitVec.getLsbD_and, BitVec.getLsbD_and]
  by_cases c : i < k
  · congr 1
    rw [BitVec.getLsbD_sshiftRight, BitVec.getLsbD_ushiftRight]
    have h1 : ¬ 32 ≤ i := by omega
    have h2 : n + i < 32 := by omega
    simp [h1, h2]
  · rw [hm i hi c, Bool.and_false, Bool.and_false]
theorem sh14 (w : Int32) : ((w >>> ((14 : Int32) &&& 31)) &&& 511) = ((iushr w (14 : Int32)) &&& 511) := by
  apply Int32.toBitVec_inj.1
  rw [Int32.toBitVec_and, Int32.toBitVec_and]
  exact sh_and w 14 511 9 (by decide) (by decide)
theorem sh6 (w : Int32) : ((w >>> ((6 : Int32) &&& 31)) &&& 255) = ((iushr w (6 : Int32)) &&& 255) := by
  apply Int32.toBitVec_inj.1
  rw [Int32.toBitVec_and, Int32.toBitVec_and]
  exact sh_and w 6 255 8 (by decide) (by decide)
/-- an answer of 0 or 1 that says whether P, the state as it was -/
def Ya (s : S1) (P : Prop) (v : Int32) (t : S1) : Prop := t = s ∧ (v = 0 ∧ ¬ P ∨ v = 1 ∧ P)
theorem ya0 {s : S1} {P : Prop} (h : ¬ P) : Ya s P 0 s := ⟨rfl, .inl ⟨rfl, h⟩⟩
theorem ya1 {s : S1} {P : Prop} (h : P) : Ya s P 1 s := ⟨rfl, .inr ⟨rfl, h⟩⟩
theorem Du.ya {s t : S1} {P : Prop} {v : Int32} (h : Du s P v t) : Ya s P v t := ⟨h.1, h.2.elim (fun z => .inr z) .inl⟩
theorem Ya.z {s t : S1} {P : Prop} {v : Int32} (h : Ya s P v t) (z : v = 0) : t = s ∧ ¬ P := ⟨h.1, h.2.elim (fun y => y.2) (fun y => absurd (y.1.symm.trans z) (by decide))⟩
theorem Ya.nz {s t : S1} {P : Prop} {v : Int32} (h : Ya s P v t) (z : ¬ v = 0) : t = s ∧ P := ⟨h.1, h.2.elim (fun y => absurd y.1 z) (fun y => y.2)⟩
theorem Ya.iff {s t : S1} {P Q : Prop} {v : Int32} (h : Ya s P v t) (e : P ↔ Q) : Ya s Q v t := ⟨h.1, h.2.imp (fun y => ⟨y.1, fun q => y.2 (e.2 q)⟩) (fun y => ⟨y.1, e.1 y.2⟩)⟩
/-- an answer asked for, then a choice by it -/
theorem hu_ask {β : Type} {f : M Int32} {A B : M β} {s : S1} {P : Prop} {Q : β → S1 → Prop} (h : hu f s (Ya s P)) (k0 : ¬ P → hu A s Q) (k1 : P → hu B s Q) : hu (oB f fun v => oC (v = 0) A B) s Q := by
  rw [hu_B]
  refine hu_mono h fun v t q => ?_
  rw [hu_C]
  refine ⟨fun z => ?_, fun z => ?_⟩
  · obtain ⟨e, p⟩ := q.z z
    rw [e]
    exact k0 p
  · obtain ⟨e, p⟩ := q.nz z
    rw [e]
    exact k1 p
/-! the class -/
theorem uses_h (s : S1) (w : Int32) : hu (M_Ch_usesOpenRow w) s (Ya s (dUs w)) := hu_mono (uses_ok s w).det fun _ _ q => q.ya
theorem opens_h (s : S1) (w : Int32) : hu (M_Ch_opensRow w) s (Ya s (dMk w)) := hu_mono (opens_ok s w).det fun _ _ q => q.ya
/-- a register or a constant -/
def rkP (x R K : Int32) : Prop := (256 ≤ x → ¬ K ≤ x - 256) ∧ (¬ 256 ≤ x → ¬ R ≤ x)
/-- what a name asks -/
def isT (nm x R U K : Int32) : Prop := if nm = 75 then rkP x R K else (nm = 82 ∧ x < R) ∨ (nm = 85 ∧ x < U) ∨ (nm = 84 ∧ x ≤ 1) ∨ nm = 45
theorem isThere_h (s : S1) (nm x p : Int32) : hu (M_Ch_isThere nm x p) s (Ya s (isT nm x (gI s 18434 p) (gI s 18435 p) (gI s 18437 p))) := by
  unfold M_Ch_isThere M_Ch_isThere_j61 M_Ch_isThere_j75 M_Ch_isThere_j86 M_Ch_isThere_j92 isT
  simp only [hu_B, hu_C, hu_R, hu_GI]
  by_cases c : nm = 75
  · simp only [c, if_true, if_pos, true_implies, not_true_eq_false, false_implies, and_true]
    by_cases d : (256 : Int32) ≤ x
    · simp only [d, true_implies, not_true_eq_false, false_implies, and_true]
      exact ⟨fun z => ya0 (fun y => y.1 d z), fun z => ya1 ⟨fun _ => z, fun n => absurd d n⟩⟩
    · simp only [d, false_implies, not_false_eq_true, true_implies, true_and]
      exact ⟨fun z => ya0 (fun y => y.2 d z), fun z => ya1 ⟨fun n => absurd n d, fun _ => z⟩⟩
  · simp only [c, if_false, false_implies, not_false_eq_true, true_implies, true_and]
    refine ⟨fun c2 => ⟨fun d => ya1 (.inl ⟨c2, d⟩), fun d => ?_⟩, fun c2 => ?_⟩
    · have n5 : ¬ nm = 85 := fun z => by rw [c2] at z; exact absurd z (by decide)
      have n4 : ¬ nm = 84 := fun z => by rw [c2] at z; exact absurd z (by decide)
      have n3 : ¬ nm = 45 := fun z => by rw [c2] at z; exact absurd z (by decide)
      exact ⟨fun z => absurd z n5, fun _ => ⟨fun z => absurd z n4, fun _ => ⟨fun z => absurd z n3, fun _ => ya0 (fun y => y.elim (fun q => d q.2) (fun y => y.elim (fun q => n5 q.1) (fun y => y.elim (fun q => n4 q.1) n3)))⟩⟩⟩
    · have tl : ¬ nm = 85 ∨ ¬ x < gI s 18435 p → (nm = 84 → (x ≤ 1 → Ya s ((nm = 82 ∧ x < gI s 18434 p) ∨ (nm = 85 ∧ x < gI s 18435 p) ∨ (nm = 84 ∧ x ≤ 1) ∨ nm = 45) 1 s) ∧ (¬ x ≤ 1 → (nm = 45 → Ya s ((nm = 82 ∧ x < gI s 18434 p) ∨ (nm = 85 ∧ x < gI s 18435 p) ∨ (nm = 84 ∧ x ≤ 1) ∨ nm = 45) 1 s) ∧ (¬ nm = 45 → Ya s ((nm = 82 ∧ x < gI s 18434 p) ∨ (nm = 85 ∧ x < gI s 18435 p) ∨ (nm = 84 ∧ x ≤ 1) ∨ nm = 45) 0 s))) ∧ (¬ nm = 84 → (nm = 45 → Ya s ((nm = 82 ∧ x < gI s 18434 p) ∨ (nm = 85 ∧ x < gI s 18435 p) ∨ (nm = 84 ∧ x ≤ 1) ∨ nm = 45) 1 s) ∧ (¬ nm = 45 → Ya s ((nm = 82 ∧ x < gI s 18434 p) ∨ (nm = 85 ∧ x < gI s 18435 p) ∨ (nm = 84 ∧ x ≤ 1) ∨ nm = 45) 0 s)) := fun n5 => by
        have no : ¬ (nm = 84 ∧ x ≤ 1) → ¬ nm = 45 → Ya s ((nm = 82 ∧ x < gI s 18434 p) ∨ (nm = 85 ∧ x < gI s 18435 p) ∨ (nm = 84 ∧ x ≤ 1) ∨ nm = 45) 0 s := fun a b => ya0 (fun y => y.elim (fun q => c2 q.1) (fun y => y.elim (fun q => n5.elim (fun z => z q.1) (fun z => z q.2)) (fun y => y.elim a b)))
        exact ⟨fun z => ⟨fun y => ya1 (.inr (.inr (.inl ⟨z, y⟩))), fun y => ⟨fun q => ya1 (.inr (.inr (.inr q))), fun q => no (fun r => y r.2) q⟩⟩, fun z => ⟨fun q => ya1 (.inr (.inr (.inr q))), fun q => no (fun r => z r.1) q⟩⟩
      exact ⟨fun z => ⟨fun y => ya1 (.inr (.inl ⟨z, y⟩)), fun y => tl (.inr y)⟩, fun z => tl (.inl z)⟩
/-- the last register that an operation names -/
def lasR (o a b c : Int32) : Int32 := if o = 4 then a + b else if o = 12 then a + 1 else if o = 30 then a - 1 else if o = 36 then (if a + b - 1 < a + c - 2 then a + c - 2 else a + b - 1) else if o = 37 then a + b - 1 else if o = 38 then a + b - 2 else if o = 39 then a + 3 else if o = 40 then a + 3 else if o = 41 then a + 2 + c else if o = 42 then a + 1 else if o = 43 then a + b else if o = 45 then a + b - 2 else 0
theorem lasR_h (s : S1) (o a b c : Int32) : hu (M_Ch_lastOfRow o a b c) s (fun v t => t = s ∧ v = lasR o a b c) := by
  unfold M_Ch_lastOfRow M_Mth_max lasR
  simp only [hu_B, hu_C, hu_R]
  refine ⟨fun h => ⟨trivial, by rw [if_pos h]⟩, fun n1 => ⟨fun h => ⟨trivial, by rw [if_neg n1, if_pos h]⟩, fun n2 => ⟨fun h => ⟨trivial, by rw [if_neg n1, if_neg n2, if_pos h]⟩, fun n3 => ⟨fun h => ⟨fun d => ⟨trivial, by rw [if_neg n1, if_neg n2, if_neg n3, if_pos h, if_pos d]⟩, fun d => ⟨trivial, by rw [if_neg n1, if_neg n2, if_neg n3, if_pos h, if_neg d]⟩⟩, fun n4 => ?_⟩⟩⟩⟩
  rw [if_neg n1, if_neg n2, if_neg n3, if_neg n4]
  refine ⟨fun h => ⟨trivial, by rw [if_pos h]⟩, fun n1 => ⟨fun h => ⟨trivial, by rw [if_neg n1, if_pos h]⟩, fun n2 => ⟨fun h => ⟨trivial, by rw [if_neg n1, if_neg n2, if_pos h]⟩, fun n3 => ⟨fun h => ⟨trivial, by rw [if_neg n1, if_neg n2, if_neg n3, if_pos h]⟩, fun n4 => ?_⟩⟩⟩⟩
  rw [if_neg n1, if_neg n2, if_neg n3, if_neg n4]
  exact ⟨fun h => ⟨trivial, by rw [if_pos h]⟩, fun n1 => ⟨fun h => ⟨trivial, by rw [if_neg n1, if_pos h]⟩, fun n2 => ⟨fun h => ⟨trivial, by rw [if_neg n1, if_neg n2, if_pos h]⟩, fun n3 => ⟨fun h => ⟨trivial, by rw [if_neg n1, if_neg n2, if_neg n3, if_pos h]⟩, fun n4 => ⟨trivial, by rw [if_neg n1, if_neg n2, if_neg n3, if_neg n4]⟩⟩⟩⟩⟩
def exT (o b c x K Z : Int32) : Prop := if o = 1 then ¬ K ≤ x else if o = 29 then ¬ c ≤ b else if o = 41 then ¬ c ≤ 0 else if o = 43 then ¬ c ≤ 0 else if o = 44 then ¬ Z ≤ x else True
/-- what the class asks of the names -/
def nmC (o a b c x R U K Z : Int32) : Prop := isT (stC 57 o) a R U K ∧ isT (stC 58 o) b R U K ∧ isT (stC 59 o) c R U K ∧ lasR o a b c < R ∧ exT o b c x K Z
theorem names_h (s : S1) (p w : Int32) : hu (M_Ch_namesWhatIsThere p w) s (Ya s (nmC (w &&& 63) (iushr w 6 &&& 255) (iushr w 23) (iushr w 14 &&& 511) (iushr w 14) (gI s 18434 p) (gI s 18435 p) (gI s 18437 p) (gI s 18442 p))) := by
  unfold M_Ch_namesWhatIsThere nmC
  simp only [hu_L]
  generalize w &&& 63 = o
  generalize iushr w 6 &&& 255 = a
  generalize iushr w 23 = b
  generalize iushr w 14 &&& 511 = c
  generalize iushr w 14 = x
  rw [hu_B, hu_K]
  intro _
  refine hu_ask (isThere_h s _ a p) (fun n => (hu_R _ _ _).2 (ya0 (fun y => n y.1))) fun h1 => ?_
  rw [hu_B, hu_K]
  intro _
  refine hu_ask (isThere_h s _ b p) (fun n => (hu_R _ _ _).2 (ya0 (fun y => n y.2.1))) fun h2 => ?_
  rw [hu_B, hu_K]
  intro _
  refine hu_ask (isThere_h s _ c p) (fun n => (hu_R _ _ _).2 (ya0 (fun y => n y.2.2.1))) fun h3 => ?_
  rw [hu_B]
  refine hu_mono (lasR_h s o a b c) ?_
  rintro v t ⟨et, ev⟩
  rw [et, ev, hu_B, hu_GI, hu_C]
  refine ⟨fun h4 => ?_, fun n => (hu_R _ _ _).2 (ya0 (fun y => n y.2.2.2.1))⟩
  have e : ∀ {P : Prop}, (P ↔ exT o b c x (gI s 18437 p) (gI s 18442 p)) → ∀ v t, Ya s P v t → Ya s (isT (stC 57 o) a (gI s 18434 p) (gI s 18435 p) (gI s 18437 p) ∧ isT (stC 58 o) b (gI s 18434 p) (gI s 18435 p) (gI s 18437 p) ∧ isT (stC 59 o) c (gI s 18434 p) (gI s 18435 p) (gI s 18437 p) ∧ lasR o a b c < gI s 18434 p ∧ exT o b c x (gI s 18437 p) (gI s 18442 p)) v t := fun i v t y => y.iff ⟨fun q => ⟨h1, h2, h3, h4, i.1 q⟩, fun q => i.2 q.2.2.2.2⟩
  unfold exT at e ⊢
  simp only [hu_B, hu_C, hu_R, hu_GI]
  refine ⟨fun o1 => ?_, fun o1 => ⟨fun o2 => ?_, fun o2 => ⟨fun o3 => ?_, fun o3 => ⟨fun o4 => ?_, fun o4 => ⟨fun o5 => ?_, fun o5 => ?_⟩⟩⟩⟩⟩
  · refine ⟨fun z => e (P := ¬ gI s 18437 p ≤ x) (by rw [if_pos o1]) _ _ (ya0 (fun y => y z)), fun z => e (P := ¬ gI s 18437 p ≤ x) (by rw [if_pos o1]) _ _ (ya1 z)⟩
  · refine ⟨fun z => e (P := ¬ c ≤ b) (by rw [if_neg o1, if_pos o2]) _ _ (ya0 (fun y => y z)), fun z => e (P := ¬ c ≤ b) (by rw [if_neg o1, if_pos o2]) _ _ (ya1 z)⟩
  · refine ⟨fun z => e (P := ¬ c ≤ 0) (by rw [if_neg o1, if_neg o2, if_pos o3]) _ _ (ya0 (fun y => y z)), fun z => e (P := ¬ c ≤ 0) (by rw [if_neg o1, if_neg o2, if_pos o3]) _ _ (ya1 z)⟩
  · refine ⟨fun z => e (P := ¬ c ≤ 0) (by rw [if_neg o1, if_neg o2, if_neg o3, if_pos o4]) _ _ (ya0 (fun y => y z)), fun z => e (P := ¬ c ≤ 0) (by rw [if_neg o1, if_neg o2, if_neg o3, if_pos o4]) _ _ (ya1 z)⟩
  · refine ⟨fun z => e (P := ¬ gI s 18442 p ≤ x) (by rw [if_neg o1, if_neg o2, if_neg o3, if_neg o4, if_pos o5]) _ _ (ya0 (fun y => y z)), fun z => e (P := ¬ gI s 18442 p ≤ x) (by rw [if_neg o1, if_neg o2, if_neg o3, if_neg o4, if_pos o5]) _ _ (ya1 z)⟩
  · exact e (P := True) (by rw [if_neg o1, if_neg o2, if_neg o3, if_neg o4, if_neg o5]) _ _ (ya1 trivial)
