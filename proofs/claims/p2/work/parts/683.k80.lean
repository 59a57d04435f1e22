/-! The class: what there is to do before the next step, as a number. -/
def sg (f : Nat → Nat) : Nat → Nat
  | 0 => 0
  | n + 1 => sg f n + f n
theorem sg_le {f g : Nat → Nat} : ∀ n, (∀ i, i < n → f i ≤ g i) → sg f n ≤ sg g n
  | 0, _ => Nat.le_refl _
  | n + 1, h => Nat.add_le_add (sg_le n fun i q => h i (by omega)) (h n (by omega))
theorem sg_eq {f g : Nat → Nat} : ∀ n, (∀ i, i < n → f i = g i) → sg f n = sg g n
  | 0, _ => rfl
  | n + 1, h => by
    show sg f n + f n = sg g n + g n
    rw [sg_eq n fun i q => h i (by omega), h n (by omega)]
theorem sg_one {f g : Nat → Nat} {x y : Nat} (k : Nat) : ∀ n, k < n → (∀ i, i < n → i ≠ k → f i ≤ g i) → f k + x ≤ g k + y → sg f n + x ≤ sg g n + y
  | 0, h, _, _ => absurd h (by omega)
  | n + 1, h, a, b => by
    show sg f n + f n + x ≤ sg g n + g n + y
    by_cases e : k = n
    · have := sg_le (f := f) (g := g) n fun i q => a i (by omega) (by omega)
      rw [e] at b
      omega
    · have := sg_one k n (by omega) (fun i q r => a i (by omega) r) b
      have := a n (by omega) (fun z => e z.symm)
      omega
theorem sg_bd {f : Nat → Nat} {b : Nat} : ∀ n, (∀ i, i < n → f i ≤ b) → sg f n ≤ n * b
  | 0, _ => by
    show 0 ≤ 0 * b
    omega
  | n + 1, h => by
    show sg f n + f n ≤ (n + 1) * b
    have := sg_bd n fun i q => h i (by omega)
    have := h n (by omega)
    rw [Nat.succ_mul]
    omega
theorem sg_mo {f : Nat → Nat} (m : Nat) : ∀ n, m ≤ n → sg f m ≤ sg f n
  | 0, h => by
    have : m = 0 := by omega
    rw [this]
    exact Nat.le_refl _
  | n + 1, h => by
    by_cases e : m = n + 1
    · rw [e]
      exact Nat.le_refl _
    · have := sg_mo (f := f) m n (by omega)
      show sg f m ≤ sg f n + f n
      omega
/-- the joinings that a frame has before it -/
def jf (s : S1) (f : Int32) : Nat := if fWh s f = 0 ∧ dO (dW s (fPr s f) (fPc s f - 1)) = 29 then Nat.min (fJa s f - (dB (dW s (fPr s f) (fPc s f - 1))).toInt + 1).toNat (pNr s (fPr s f)).toNat else 0
def jS (s : S1) (c : Int32) : Nat := sg (fun j => jf s (c * 200 + Int32.ofNat j)) (oD s c).toNatClampNeg
def iU (s : S1) (c : Int32) : Prop := gI s 19071 c = 1 ∧ 0 ≤ oSl s c
theorem iU_dec (s : S1) (c : Int32) : (gI s 19071 c = 1 ∧ 0 ≤ oSl s c) ↔ iU s c := Iff.rfl
def om (s : S1) (c : Int32) : Nat := if gI s 19071 c = 1 ∧ 0 ≤ oSl s c then 4 * (oD s c).toNatClampNeg + (if gI s 18952 c = 0 then 1200 else 0) + 2405 * jS s c else 0
def Om (s : S1) : Nat := sg (fun i => om s (Int32.ofNat i)) 32
theorem om_n {s : S1} {c : Int32} (h : ¬ iU s c) : om s c = 0 := by
  unfold om
  exact if_neg h
theorem om_u {s : S1} {c : Int32} (h : iU s c) : om s c = 4 * (oD s c).toNatClampNeg + (if gI s 18952 c = 0 then 1200 else 0) + 2405 * jS s c := by
  unfold om
  exact if_pos h
theorem jf_eq {s t : S1} {f : Int32} (h1 : fWh t f = fWh s f) (h2 : fPr t f = fPr s f) (h3 : fPc t f = fPc s f) (h4 : gI t 19464 f = gI s 19464 f) (p : ∀ k j, k / 128 = 144 → gI t k j = gI s k j) (a : ∀ i j, gA t 104 i j = gA s 104 i j) : jf t f = jf s f := by
  have ew : ∀ p i, dW t p i = dW s p i := fun q i => by
    unfold dW
    rw [p 18440 q (by decide), a]
  unfold jf fJa pNr
  rw [h1, h2, h3, h4, ew, p 18434 _ (by decide)]
theorem jf_0 {s : S1} {f : Int32} (h : fWh s f ≠ 0) : jf s f = 0 := by
  unfold jf
  rw [if_neg (fun z => h z.1)]
theorem jf_le {s : S1} {f : Int32} : jf s f ≤ (pNr s (fPr s f)).toNat := by
  unfold jf
  split
  · exact Nat.min_le_right _ _
  · exact Nat.zero_le _
/-- what is there after has been there before, with no more frames -/
theorem om_le {s t : S1} {x : Int32} (hu : iU t x → iU s x ∧ (gI t 18952 x = gI s 18952 x ∨ gI t 18952 x = 1) ∧ (oD t x).toNatClampNeg ≤ (oD s x).toNatClampNeg ∧ ∀ j, j < (oD t x).toNatClampNeg → jf t (x * 200 + Int32.ofNat j) = jf s (x * 200 + Int32.ofNat j)) : om t x ≤ om s x ∧ (iU t x → om t x + 4 * ((oD s x).toNatClampNeg - (oD t x).toNatClampNeg) ≤ om s x) := by
  by_cases a : iU t x
  · obtain ⟨b, c, d, e⟩ := hu a
    rw [om_u a, om_u b]
    have j : jS t x ≤ jS s x := by
      unfold jS
      rw [sg_eq _ e]
      exact sg_mo _ _ d
    have k : (if gI t 18952 x = 0 then 1200 else 0) ≤ (if gI s 18952 x = 0 then 1200 else 0) := by
      rcases c with z | z
      · rw [z]
        exact Nat.le_refl _
      · rw [z, if_neg (by decide)]
        exact Nat.zero_le _
    generalize (if gI t 18952 x = 0 then 1200 else 0) = p at k ⊢
    generalize (if gI s 18952 x = 0 then 1200 else 0) = q at k ⊢
    refine ⟨by omega, fun _ => by omega⟩
  · rw [om_n a]
    exact ⟨Nat.zero_le _, fun z => absurd z a⟩
theorem Kor.jfE {c u : Bool} {s t : S1} (h : Kor c u s t) (f : Int32) : jf t f = jf s f :=
  jf_eq (h.1 _ _ (by unfold foI; decide)) (h.1 _ _ (by unfold foI; decide)) (h.1 _ _ (by unfold foI; decide)) (h.1 _ _ (by unfold foI; decide)) (fun k j q => h.1 k j (by unfold foI; omega)) h.2.1
theorem Kor.iu {c u : Bool} {s t : S1} (h : Kor c u s t) {x : Int32} (a : iU t x) : iU s x := by
  refine ⟨(h.1 19071 x (by unfold foI; decide)).symm.trans a.1, ?_⟩
  rcases h.2.2.1 x with z | z
  · rw [show oSl s x = oSl t x from z.symm]
    exact a.2
  · have := a.2
    rw [show oSl t x = -1 from z] at this
    exact absurd this (by decide)
theorem Kor.od {c u : Bool} {s t : S1} (h : Kor c u s t) (x : Int32) : oD t x = oD s x := h.1 _ _ (by unfold foI; decide)
theorem Kor.oL {c u : Bool} {s t : S1} (h : Kor c u s t) (x : Int32) : om t x ≤ om s x := (om_le fun a => ⟨h.iu a, h.2.2.2.1 x, by rw [h.od]; exact Nat.le_refl _, fun _ _ => h.jfE _⟩).1
theorem Kor.oM {c u : Bool} {s t : S1} (h : Kor c u s t) : Om t ≤ Om s := sg_le 32 fun i _ => h.oL _
theorem idx {x : Int32} (h : 0 ≤ x ∧ x < 32) : x.toNatClampNeg < 32 ∧ Int32.ofNat x.toNatClampNeg = x := by
  refine ⟨?_, ofNat_clamp h.1⟩
  have a := h.1
  have b := h.2
  rw [i32_le] at a
  rw [i32_lt] at b
  have e0 : (0 : Int32).toInt = 0 := rfl
  have e2 : (32 : Int32).toInt = 32 := rfl
  unfold Int32.toNatClampNeg
  omega
theorem idx' {i : Nat} (h : i < 32) : (0 ≤ Int32.ofNat i ∧ Int32.ofNat i < 32) ∧ (Int32.ofNat i).toNatClampNeg = i := by
  have e : (Int32.ofNat i).toInt = i := ofNat_toInt (by omega)
  have e0 : (0 : Int32).toInt = 0 := rfl
  have e2 : (32 : Int32).toInt = 32 := rfl
  refine ⟨⟨by rw [i32_le]; omega, by rw [i32_lt]; omega⟩, ?_⟩
  unfold Int32.toNatClampNeg
  omega
/-- one coroutine has changed otherwise than the others -/
theorem Om_one {s t : S1} {x : Int32} {a b : Nat} (hx : 0 ≤ x ∧ x < 32) (o : ∀ d, 0 ≤ d ∧ d < 32 → d ≠ x → om t d ≤ om s d) (h : om t x + a ≤ om s x + b) : Om t + a ≤ Om s + b := by
  obtain ⟨k, e⟩ := idx hx
  refine sg_one x.toNatClampNeg 32 k (fun i q r => o _ (idx' q).1 (fun z => r ?_)) (by rw [e]; exact h)
  rw [← z]
  exact (idx' q).2.symm
theorem Kor.begin {c u : Bool} {s t : S1} (h : Kor c u s t) {x : Int32} (hx : 0 ≤ x ∧ x < 32) (a : iU s x) (b : gI s 18952 x = 0) (d : gI t 18952 x ≠ 0) : Om t + 1200 ≤ Om s := by
  show Om t + _ ≤ Om s + 0
  refine Om_one hx (fun y _ _ => h.oL y) ?_
  by_cases z : iU t x
  · rw [om_u z, om_u a, if_neg d, if_pos b, h.od]
    have j : jS t x = jS s x := by
      unfold jS
      rw [h.od]
      exact sg_eq _ fun _ _ => h.jfE _
    rw [j]
    omega
  · rw [om_n z, om_u a, if_pos b]
    omega
/-- frames of a coroutine have gone -/
def Kct (x k : Int32) (s t : S1) : Prop := (∀ f i, foI f → f ≠ 18948 → gI t f i = gI s f i) ∧ (∀ i, i ≠ x → oD t i = oD s i) ∧ oD t x = k ∧ (∀ i j, gA t 104 i j = gA s 104 i j) ∧ (∀ i, gI t 18950 i = gI s 18950 i ∨ gI t 18950 i = -1) ∧ (∀ i, gI t 18952 i = gI s 18952 i ∨ gI t 18952 i = 1)
theorem clampI {x : Int32} (h : 0 ≤ x.toInt) : (x.toNatClampNeg : Int) = x.toInt := by
  unfold Int32.toNatClampNeg
  omega
theorem Kct.jfE {x k : Int32} {s t : S1} (h : Kct x k s t) (f : Int32) : jf t f = jf s f :=
  jf_eq (h.1 _ _ (by unfold foI; decide) (by decide)) (h.1 _ _ (by unfold foI; decide) (by decide)) (h.1 _ _ (by unfold foI; decide) (by decide)) (h.1 _ _ (by unfold foI; decide) (by decide)) (fun k j q => h.1 k j (by unfold foI; omega) (by omega)) h.2.2.2.1
theorem Kct.iu {x k : Int32} {s t : S1} (h : Kct x k s t) {y : Int32} (a : iU t y) : iU s y := by
  refine ⟨(h.1 19071 y (by unfold foI; decide) (by decide)).symm.trans a.1, ?_⟩
  rcases h.2.2.2.2.1 y with z | z
  · rw [show oSl s y = oSl t y from z.symm]
    exact a.2
  · have := a.2
    rw [show oSl t y = -1 from z] at this
    exact absurd this (by decide)
theorem Kct.le {x k : Int32} {s t : S1} (h : Kct x k s t) (hx : 0 ≤ x ∧ x < 32) (k1 : k.toNatClampNeg ≤ (oD s x).toNatClampNeg) : Om t ≤ Om s := by
  refine sg_le 32 fun i _ => (om_le fun a => ⟨h.iu a, h.2.2.2.2.2 _, ?_, fun _ _ => h.jfE _⟩).1
  by_cases z : Int32.ofNat i = x
  · rw [z, h.2.2.1]
    exact k1
  · rw [h.2.1 _ z]
    exact Nat.le_refl _
theorem Kct.oM {x k : Int32} {s t : S1} (h : Kct x k s t) (hx : 0 ≤ x ∧ x < 32) (a : iU s x) (k0 : 0 ≤ k.toInt) (k1 : k.toInt < (oD s x).toInt) : Om t + 4 ≤ Om s := by
  have c1 := clampI k0
  have c2 := clampI (x := oD s x) (by omega)
  show Om t + _ ≤ Om s + 0
  refine Om_one hx (fun y _ q => (om_le fun a => ⟨h.iu a, h.2.2.2.2.2 _, by rw [h.2.1 _ q]; exact Nat.le_refl _, fun _ _ => h.jfE _⟩).1) ?_
  have w := (om_le (s := s) (t := t) (x := x) fun a => ⟨h.iu a, h.2.2.2.2.2 _, by rw [h.2.2.1]; omega, fun _ _ => h.jfE _⟩).2
  by_cases z : iU t x
  · have v := w z
    rw [h.2.2.1] at v
    omega
  · rw [om_n z, om_u a]
    omega
