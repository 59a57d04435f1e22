/-! The class: what its programs leave alone: all of the other machine; and, while a program runs, the face. -/
def Zr (z : Nat) (b : Bool) (s t : S1) : Prop := (∀ f i, f < 128 * z ∨ f = 14220 → gI t f i = gI s f i) ∧ (∀ f i, f < 128 * z → gL t f i = gL s f i) ∧ (∀ a i j, a < z → gA t a i j = gA s a i j) ∧ (∀ a i j, a < z → gB t a i j = gB s a i j) ∧ (b = true → gI t 16641 0 = gI s 16641 0)
theorem Zr.refl (z : Nat) (b : Bool) (s : S1) : Zr z b s s := ⟨fun _ _ _ => rfl, fun _ _ _ => rfl, fun _ _ _ _ => rfl, fun _ _ _ _ => rfl, fun _ => rfl⟩
theorem Zr.trans {z : Nat} {b : Bool} {s t u : S1} (h : Zr z b s t) (k : Zr z b t u) : Zr z b s u := ⟨fun f i q => (k.1 f i q).trans (h.1 f i q), fun f i q => (k.2.1 f i q).trans (h.2.1 f i q), fun a i j q => (k.2.2.1 a i j q).trans (h.2.2.1 a i j q), fun a i j q => (k.2.2.2.1 a i j q).trans (h.2.2.2.1 a i j q), fun q => (k.2.2.2.2 q).trans (h.2.2.2.2 q)⟩
def Zp (z : Nat) (b : Bool) {α : Type} (J : α → Prop) (f : M α) : Prop := ∀ s a t, f s = some (a, t) → Zr z b s t ∧ J a
def Zk (z : Nat) (b : Bool) {α : Type} (f : M α) : Prop := ∀ s a t, f s = some (a, t) → Zr z b s t
theorem Zk.p {z : Nat} {b : Bool} {α : Type} {f : M α} (h : Zk z b f) : Zp z b (fun _ => True) f := fun s a t e => ⟨h s a t e, trivial⟩
theorem Zp.k {z : Nat} {b : Bool} {α : Type} {J : α → Prop} {f : M α} (h : Zp z b J f) : Zk z b f := fun s a t e => (h s a t e).1
theorem Zk.wb {z : Nat} {α : Type} {f : M α} (h : Zk z true f) (b : Bool) : Zk z b f := fun s a t e => by
  obtain ⟨k1, k2, k3, k4, k5⟩ := h s a t e
  exact ⟨k1, k2, k3, k4, fun _ => k5 rfl⟩
theorem Zk.wz {b : Bool} {α : Type} {f : M α} (h : Zk 111 b f) : Zk 100 b f := fun s a t e => by
  obtain ⟨k1, k2, k3, k4, k5⟩ := h s a t e
  exact ⟨fun f i q => k1 f i (by omega), fun f i q => k2 f i (by omega), fun a i j q => k3 a i j (by omega), fun a i j q => k4 a i j (by omega), k5⟩
theorem zp_R {z : Nat} {b : Bool} {α : Type} {J : α → Prop} {a : α} (h : J a) : Zp z b J (oR a) := fun s a' t e => by
  cases e
  exact ⟨Zr.refl z b s, h⟩
theorem zp_B {z : Nat} {b : Bool} {α β : Type} {J : α → Prop} {K : β → Prop} {f : M α} {g : α → M β} (hf : Zp z b J f) (hg : ∀ a, J a → Zp z b K (g a)) : Zp z b K (oB f g) := fun s c t e => by
  unfold oB at e
  cases h : f s with
  | none => rw [h] at e; cases e
  | some q =>
    rw [h] at e
    obtain ⟨a, u⟩ := q
    obtain ⟨k1, k2⟩ := hf s a u h
    obtain ⟨k3, k4⟩ := hg a k2 u c t e
    exact ⟨k1.trans k3, k4⟩
theorem zp_C {z : Nat} {b : Bool} {α : Type} {J : α → Prop} {c : Prop} [Decidable c] {f g : M α} (hf : Zp z b J f) (hg : Zp z b J g) : Zp z b J (oC c f g) := fun s a t e => by
  unfold oC at e
  by_cases d : c
  · rw [if_pos d] at e
    exact hf s a t e
  · rw [if_neg d] at e
    exact hg s a t e
theorem zp_W {z : Nat} {b : Bool} {σ ρ : Type} {body : σ → M (σ ⊕ ρ)} {I : σ → Prop} {J : ρ → Prop} (h : ∀ x, I x → Zp z b (Sum.elim I J) (body x)) (x : σ) (hx : I x) : Zp z b J (oW body x) := fun s a t e => by
  obtain ⟨n, hn⟩ := oW_n body x s (a, t) e
  clear e
  induction n generalizing x s with
  | zero => cases hn
  | succ n ih =>
    cases hc : body x s with
    | none => simp only [oWn, hc] at hn; cases hn
    | some p =>
      obtain ⟨y, s2⟩ := p
      have w := h x hx s y s2 hc
      cases y with
      | inl y =>
        simp only [oWn, hc] at hn
        obtain ⟨k1, k2⟩ := ih y w.2 s2 hn
        exact ⟨w.1.trans k1, k2⟩
      | inr e =>
        simp only [oWn, hc] at hn
        cases hn
        exact w
theorem zk_R {z : Nat} {b : Bool} {α : Type} (a : α) : Zk z b (oR a) := (zp_R (J := fun _ => True) trivial).k
theorem zk_F {z : Nat} {b : Bool} {α : Type} : Zk z b (oF : M α) := fun s a t e => by cases e
theorem zk_B {z : Nat} {b : Bool} {α β : Type} {f : M α} {g : α → M β} (hf : Zk z b f) (hg : ∀ a, Zk z b (g a)) : Zk z b (oB f g) := (zp_B hf.p (fun a _ => (hg a).p)).k
theorem zk_C {z : Nat} {b : Bool} {α : Type} {c : Prop} [Decidable c] {f g : M α} (hf : Zk z b f) (hg : Zk z b g) : Zk z b (oC c f g) := (zp_C hf.p hg.p).k
theorem zk_L {z : Nat} {b : Bool} {α β : Type} {x : α} {g : α → M β} (h : Zk z b (g x)) : Zk z b (oL x g) := h
theorem zk_W {z : Nat} {b : Bool} {σ ρ : Type} {body : σ → M (σ ⊕ ρ)} (h : ∀ x, Zk z b (body x)) (x : σ) : Zk z b (oW body x) := (zp_W (I := fun _ => True) (J := fun _ => True) (fun x _ s a t e => ⟨h x s a t e, by cases a <;> trivial⟩) x trivial).k
theorem zk_E {z : Nat} {b : Bool} {α β γ : Type} {f : α → M γ} {g : β → M γ} (hf : ∀ a, Zk z b (f a)) (hg : ∀ c, Zk z b (g c)) (y : α ⊕ β) : Zk z b (Sum.elim f g y) := by
  rcases y with y | y
  · exact hf y
  · exact hg y
theorem zk_id {z : Nat} {b : Bool} {α : Type} {f : M α} (h : ∀ s a t, f s = some (a, t) → t = s) : Zk z b f := fun s a t e => by
  rw [h s a t e]
  exact Zr.refl z b s
theorem ifs_st {α : Type} {c : Prop} [Decidable c] {x : α × S1} {a : α} {t : S1} (h : (if c then some x else none) = some (a, t)) : t = x.2 := by
  by_cases d : c
  · rw [if_pos d] at h
    cases h
    rfl
  · rw [if_neg d] at h
    cases h
theorem zk_K {z : Nat} {b : Bool} (c : Prop) [Decidable c] : Zk z b (oK c) := zk_id fun s a t e => ifs_st e
theorem zk_Ks {z : Nat} {b : Bool} (c : S1 → Prop) : Zk z b (oKs c) := zk_id fun s a t e => by
  unfold oKs at e
  exact @ifs_st _ _ (Classical.propDecidable _) _ _ _ e
theorem zk_GI {z : Nat} {b : Bool} (f : Nat) (i : Int32) : Zk z b (oGI f i) := zk_id fun s a t e => by cases e; rfl
theorem zk_GL {z : Nat} {b : Bool} (f : Nat) (i : Int32) : Zk z b (oGL f i) := zk_id fun s a t e => by cases e; rfl
theorem zk_Ln {z : Nat} {b : Bool} (f : Nat) (i : Int32) : Zk z b (oLn f i) := zk_id fun s a t e => by cases e; rfl
theorem zk_AI {z : Nat} {b : Bool} (a : Nat) (n i j : Int32) : Zk z b (oAI a n i j) := zk_id fun s x t e => ifs_st (x := (gA s a i j, s)) e
theorem zk_AL {z : Nat} {b : Bool} (a : Nat) (n i j : Int32) : Zk z b (oAL a n i j) := zk_id fun s x t e => ifs_st (x := (gB s a i j, s)) e
theorem zk_Pr {z : Nat} {b : Bool} (r : Nat) (i : Int32) : Zk z b (oPr r i) := zk_id fun s x t e => ifs_st (x := ((), s)) e
theorem zk_Pz {z : Nat} {b : Bool} (t' : Nat) (n j : Int32) : Zk z b (oPz t' n j) := zk_id fun s x t e => ifs_st (x := ((), s)) e
theorem zk_Nz {z : Nat} {b : Bool} (t' : Nat) (n j : Int32) : Zk z b (oNz t' n j) := zk_id fun s x t e => by
  unfold oNz at e
  exact ifs_st e
theorem zk_Nw {z : Nat} {b : Bool} (n : Nat × Nat) (k : Nat) : Zk z b (oNw n k) := zk_id fun s x t e => by
  unfold oNw at e
  exact ifs_st e
theorem zk_PI {z : Nat} {b : Bool} {f : Nat} {i x : Int32} (h : 128 * z ≤ f ∧ f ≠ 14220 ∧ f ≠ 16641) : Zk z b (oPI f i x) := fun s a t e => by
  cases e
  refine ⟨fun g j q => ?_, fun _ _ _ => rfl, fun _ _ _ _ => rfl, fun _ _ _ _ => rfl, fun _ => ?_⟩
  · rw [gI_sI, if_neg (fun y => by omega)]
  · rw [gI_sI, if_neg (fun y => by omega)]
theorem zk_PIw {z : Nat} {i x : Int32} (h : 128 * z ≤ 16641) : Zk z false (oPI 16641 i x) := fun s a t e => by
  cases e
  refine ⟨fun g j q => ?_, fun _ _ _ => rfl, fun _ _ _ _ => rfl, fun _ _ _ _ => rfl, fun y => by cases y⟩
  rw [gI_sI, if_neg (fun y => by omega)]
theorem zk_PL {z : Nat} {b : Bool} {f : Nat} {i : Int32} {x : Int64} (h : 128 * z ≤ f) : Zk z b (oPL f i x) := fun s a t e => by
  cases e
  refine ⟨fun _ _ _ => rfl, fun g j q => ?_, fun _ _ _ _ => rfl, fun _ _ _ _ => rfl, fun _ => rfl⟩
  rw [gL_sL, if_neg (fun y => by omega)]
theorem zk_SI {z : Nat} {b : Bool} {a : Nat} {n i j x : Int32} (h : z ≤ a) : Zk z b (oSI a n i j x) := fun s y t e => by
  rw [ifs_st (x := ((), sA s a i j x)) e]
  refine ⟨fun _ _ _ => rfl, fun _ _ _ => rfl, fun g p k q => ?_, fun _ _ _ _ => rfl, fun _ => rfl⟩
  show gA (sA s a i j x) g p k = _
  rw [gA_sA, if_neg (fun y => by omega)]
theorem zk_SL {z : Nat} {b : Bool} {a : Nat} {n i j : Int32} {x : Int64} (h : z ≤ a) : Zk z b (oSL a n i j x) := fun s y t e => by
  rw [ifs_st (x := ((), sB s a i j x)) e]
  refine ⟨fun _ _ _ => rfl, fun _ _ _ => rfl, fun _ _ _ _ => rfl, fun g p k q => ?_, fun _ => rfl⟩
  show gB (sB s a i j x) g p k = _
  rw [gB_sB, if_neg (fun y => by omega)]
theorem zk_CI {z : Nat} {b : Bool} {ra : Nat} {ia na : Int32} {rb : Nat} {ib nb sp dp n : Int32} (h : z ≤ rb) : Zk z b (oCI ra ia na rb ib nb sp dp n) := fun s y t e => by
  rw [ifs_st (x := ((), sAf s rb ib (cpI s ra ia rb ib sp dp n))) e]
  refine ⟨fun _ _ _ => rfl, fun _ _ _ => rfl, fun g p k q => ?_, fun _ _ _ _ => rfl, fun _ => rfl⟩
  show gA (sAf s rb ib (cpI s ra ia rb ib sp dp n)) g p k = _
  rw [gA_sAf, if_neg (fun y => by omega)]
theorem zk_CL {z : Nat} {b : Bool} {ra : Nat} {ia na : Int32} {rb : Nat} {ib nb sp dp n : Int32} (h : z ≤ rb) : Zk z b (oCL ra ia na rb ib nb sp dp n) := fun s y t e => by
  rw [ifs_st (x := ((), sBf s rb ib (cpL s ra ia rb ib sp dp n))) e]
  refine ⟨fun _ _ _ => rfl, fun _ _ _ => rfl, fun _ _ _ _ => rfl, fun g p k q => ?_, fun _ => rfl⟩
  show gB (sBf s rb ib (cpL s ra ia rb ib sp dp n)) g p k = _
  rw [gB_sBf, if_neg (fun y => by omega)]
theorem zk_S {z : Nat} {b : Bool} {f : S1 → S1} (h : ∀ s, Zr z b s (f s)) : Zk z b (oS f) := fun s a t e => by
  cases e
  exact h s
theorem zr_nwR {z : Nat} {b : Bool} {r : Nat} {i : Int32} {n : Nat} (h : z ≤ r) (s : S1) : Zr z b s (nwR s r i n) := by
  refine ⟨fun f j q => ?_, fun _ _ _ => rfl, fun a j k q => ?_, fun a j k q => ?_, fun _ => ?_⟩
  · show (if f = 128 * r + 127 ∧ j = i then 1 else if f = 128 * r + 126 ∧ j = i then Int32.ofNat n else s.1 f j) = s.1 f j
    rw [if_neg (fun y => by omega), if_neg (fun y => by omega)]
  · show (if a = r ∧ j = i then 0 else s.2.2.1 a j k) = s.2.2.1 a j k
    rw [if_neg (fun y => by omega)]
  · show (if a = r ∧ j = i then 0 else s.2.2.2 a j k) = s.2.2.2 a j k
    rw [if_neg (fun y => by omega)]
  · show (if 16641 = 128 * r + 127 ∧ (0 : Int32) = i then 1 else if 16641 = 128 * r + 126 ∧ (0 : Int32) = i then Int32.ofNat n else s.1 16641 0) = s.1 16641 0
    rw [if_neg (fun y => by omega), if_neg (fun y => by omega)]
theorem zr_nwO {z : Nat} {b : Bool} {r : Nat} {i : Int32} (h : z ≤ r ∧ r ≠ 111 ∧ r ≠ 130) (s : S1) : Zr z b s (nwO s r i) := by
  refine ⟨fun f j q => ?_, fun f j q => ?_, fun a j k q => rfl, fun a j k q => rfl, fun _ => ?_⟩
  · show (if f / 128 = r ∧ j = i then (if f % 128 = 127 then 1 else if tcG f = 4 then -1 else 0) else s.1 f j) = s.1 f j
    rw [if_neg (fun y => by omega)]
  · show (if f / 128 = r ∧ j = i then 0 else s.2.1 f j) = s.2.1 f j
    rw [if_neg (fun y => by omega)]
  · show (if 16641 / 128 = r ∧ (0 : Int32) = i then (if 16641 % 128 = 127 then 1 else if tcG 16641 = 4 then -1 else 0) else s.1 16641 0) = s.1 16641 0
    rw [if_neg (fun y => by omega)]
theorem zr_mvB {z : Nat} {b : Bool} {r : Nat} {i : Int32} (h : z ≤ r ∧ z ≤ 154) (s : S1) : Zr z b s (mvB s r i) := by
  refine ⟨fun f j q => ?_, fun f j q => rfl, fun a j k q => ?_, fun a j k q => rfl, fun _ => ?_⟩
  · show (if f = 128 * r + 127 ∧ j = i then 1 else if f = 128 * r + 126 ∧ j = i then gI s 19838 0 else if f = 19839 ∧ j = 0 then 0 else s.1 f j) = s.1 f j
    rw [if_neg (fun y => by omega), if_neg (fun y => by omega), if_neg (fun y => by omega)]
  · show (if a = r ∧ j = i then gA s 154 0 k else s.2.2.1 a j k) = s.2.2.1 a j k
    rw [if_neg (fun y => by omega)]
  · show (if 16641 = 128 * r + 127 ∧ (0 : Int32) = i then 1 else if 16641 = 128 * r + 126 ∧ (0 : Int32) = i then gI s 19838 0 else if 16641 = 19839 ∧ (0 : Int32) = 0 then 0 else s.1 16641 0) = s.1 16641 0
    rw [if_neg (fun y => by omega), if_neg (fun y => by omega), if_neg (fun y => by omega)]
theorem zr_clB {z : Nat} {b : Bool} {r : Nat} {i : Int32} (h : z ≤ 154) (s : S1) : Zr z b s (clB s r i) := by
  refine ⟨fun f j q => ?_, fun f j q => rfl, fun a j k q => ?_, fun a j k q => rfl, fun _ => ?_⟩
  · show (if f = 19839 ∧ j = 0 then 1 else if f = 19838 ∧ j = 0 then Int32.ofNat (lnS s r i) else s.1 f j) = s.1 f j
    rw [if_neg (fun y => by omega), if_neg (fun y => by omega)]
  · show (if a = 154 ∧ j = 0 then gA s r i k else s.2.2.1 a j k) = s.2.2.1 a j k
    rw [if_neg (fun y => by omega)]
  · show (if 16641 = 19839 ∧ (0 : Int32) = 0 then 1 else if 16641 = 19838 ∧ (0 : Int32) = 0 then Int32.ofNat (lnS s r i) else s.1 16641 0) = s.1 16641 0
    rw [if_neg (fun y => by omega), if_neg (fun y => by omega)]
theorem zr_coS {z : Nat} {b : Bool} {c : Int32} (h : z ≤ 148) (s : S1) : Zr z b s (coS s c) := by
  refine ⟨fun f j q => ?_, fun f j q => ?_, fun a j k q => rfl, fun a j k q => rfl, fun _ => ?_⟩
  · show (if f = 19071 ∧ j = c then 1 else if f / 128 = 148 ∧ j = c then gI s (128 * 153 + f % 128) c else if f = 19711 ∧ j = c then 0 else s.1 f j) = s.1 f j
    rw [if_neg (fun y => by omega), if_neg (fun y => by omega), if_neg (fun y => by omega)]
  · show (if f / 128 = 148 ∧ j = c then gL s (128 * 153 + f % 128) c else s.2.1 f j) = s.2.1 f j
    rw [if_neg (fun y => by omega)]
  · show (if 16641 = 19071 ∧ (0 : Int32) = c then 1 else if 16641 / 128 = 148 ∧ (0 : Int32) = c then gI s (128 * 153 + 16641 % 128) c else if 16641 = 19711 ∧ (0 : Int32) = c then 0 else s.1 16641 0) = s.1 16641 0
    rw [if_neg (fun y => by omega), if_neg (fun y => by omega), if_neg (fun y => by omega)]
theorem zk_Arr_rangeCheck {z : Nat} {b : Bool} (l0 l1 l2 : Int32) : Zk z b (M_Arr_rangeCheck l0 l1 l2) := by
  unfold M_Arr_rangeCheck
  exact zk_C (zk_C (zk_C (zk_R _) zk_F) zk_F) zk_F
theorem zk_Arr_fill {z : Nat} {b : Bool} (r : Nat) (x y : Int32) (h : z ≤ r) : Zk z b (M_Arr_fill r x y) := by
  unfold M_Arr_fill
  refine zk_L (zk_B (zp_W (I := fun x => z ≤ x.1) (J := fun _ => True) (fun x hx => ?_) _ h).k (fun _ => zk_R _))
  unfold M_Arr_fill_L5
  exact zp_C (zp_R trivial) (zp_B (zk_SI hx).p fun _ _ => zp_R hx)
theorem zk_Arr_fill_ {z : Nat} {b : Bool} (r : Nat) (x y w v : Int32) (h : z ≤ r) : Zk z b (M_Arr_fill_ r x y w v) := by
  unfold M_Arr_fill_
  refine zk_B (zk_Arr_rangeCheck _ _ _) (fun _ => zk_B (zk_Pr _ _) (fun _ => zk_B (zp_W (I := fun x => z ≤ x.1) (J := fun _ => True) (fun x hx => ?_) _ h).k (fun _ => zk_R _)))
  unfold M_Arr_fill__L10
  exact zp_C (zp_R trivial) (zp_B (zk_SI hx).p fun _ _ => zp_R hx)
theorem zk_Arr_fill__ {z : Nat} {b : Bool} (r : Nat) (x y w : Int32) (v : Int64) (h : z ≤ r) : Zk z b (M_Arr_fill__ r x y w v) := by
  unfold M_Arr_fill__
  refine zk_B (zk_Arr_rangeCheck _ _ _) (fun _ => zk_B (zk_Pr _ _) (fun _ => zk_B (zp_W (I := fun x => z ≤ x.1) (J := fun _ => True) (fun x hx => ?_) _ h).k (fun _ => zk_R _)))
  unfold M_Arr_fill___L10
  exact zp_C (zp_R trivial) (zp_B (zk_SL hx).p fun _ _ => zp_R hx)
theorem zk_Arr_fill_____ {z : Nat} {b : Bool} (r : Nat) (x y w v : Int32) (h : z ≤ r) : Zk z b (M_Arr_fill_____ r x y w v) := by
  unfold M_Arr_fill_____
  refine zk_B (zk_Arr_rangeCheck _ _ _) (fun _ => zk_B (zk_Pr _ _) (fun _ => zk_B (zp_W (I := fun x => z ≤ x.1) (J := fun _ => True) (fun x hx => ?_) _ h).k (fun _ => zk_R _)))
  unfold M_Arr_fill______L10
  exact zp_C (zp_R trivial) (zp_B (zk_SI hx).p fun _ _ => zp_R hx)
