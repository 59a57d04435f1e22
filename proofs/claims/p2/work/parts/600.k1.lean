/-! The class: names of its state, and chains. -/
abbrev cN (s : S1) : Int32 := gI s 14209 0
abbrev cFc (s : S1) : Int32 := gI s 14211 0
abbrev cFr (s : S1) (i : Int32) : Int32 := gA s 113 0 i
abbrev cTl (s : S1) (i : Int32) : Int32 := gA s 114 0 i
abbrev cBk (s : S1) (i : Int32) : Int32 := gA s 117 0 i
abbrev cWc (s : S1) : Int32 := gI s 14219 0
abbrev cWt (s : S1) (i : Int32) : Int32 := gA s 119 0 i
abbrev cTy (s : S1) (x : Int32) : Int32 := gI s 18560 x
abbrev cNu (s : S1) (x : Int32) : Int32 := gI s 18561 x
abbrev cRe (s : S1) (x : Int32) : Int32 := gI s 18562 x
abbrev cSy (s : S1) (x : Int32) : Int32 := gI s 18563 x
abbrev cLk (s : S1) (x : Int32) : Int32 := gI s 18564 x
abbrev cNx (s : S1) (x : Int32) : Int32 := gI s 18565 x
abbrev cPl (s : S1) (x : Int32) : Int32 := gI s 18566 x
abbrev cCk (s : S1) (x : Int32) : Int32 := gI s 18567 x
abbrev cCv (s : S1) (x : Int32) : Int64 := gL s 18568 x
abbrev cS0 (s : S1) (x : Int32) : Int32 := gI s 18571 x
abbrev cR (s : S1) (x : Int32) : Int32 := gI s 18572 x
abbrev cE (s : S1) (x : Int32) : Int32 := gI s 18573 x
abbrev cMt (s : S1) (x : Int32) : Int32 := gI s 18574 x
abbrev cBf (s : S1) (x : Int32) : Int32 := gI s 18815 x
abbrev cBl (s : S1) (x : Int32) : Int32 := gI s 18814 x
abbrev cUf (s : S1) (x : Int32) : Int32 := gI s 18943 x
abbrev cUl (s : S1) (x : Int32) : Int32 := gI s 18942 x
abbrev cUp (s : S1) (x i : Int32) : Int32 := gA s 147 x i
abbrev cKk (s : S1) (i : Int32) : Int32 := gA s 121 0 i
abbrev cKv (s : S1) (i : Int32) : Int64 := gB s 122 0 i
abbrev cVk (s : S1) (i : Int32) : Int32 := gA s 123 0 i
abbrev cVv (s : S1) (i : Int32) : Int64 := gB s 124 0 i
abbrev cHd (s : S1) (i : Int32) : Int32 := gA s 125 0 i
abbrev cCh (s : S1) (i : Int32) : Int32 := gA s 126 0 i
abbrev cOw (s : S1) (i : Int32) : Int32 := gA s 127 0 i
abbrev cTop (s : S1) : Int32 := gI s 15367 0
abbrev cUc (s : S1) (p : Int32) : Int32 := gI s 18435 p
abbrev oD (s : S1) (c : Int32) : Int32 := gI s 18948 c
abbrev oU (s : S1) (c : Int32) : Int32 := gI s 18949 c
abbrev oSl (s : S1) (c : Int32) : Int32 := gI s 18950 c
abbrev oFn (s : S1) (c : Int32) : Int64 := gL s 18953 c
abbrev oNo (s : S1) (c : Int32) : Int32 := gI s 18954 c
abbrev oRs (s : S1) (c : Int32) : Int32 := gI s 18955 c
abbrev oRk (s : S1) (c i : Int32) : Int32 := gA s 149 c i
abbrev oRv (s : S1) (c i : Int32) : Int64 := gB s 150 c i
abbrev mFn (s : S1) (f : Int32) : Int32 := gI s 19457 f
abbrev mJk (s : S1) (f : Int32) : Int32 := gI s 19462 f
abbrev mJv (s : S1) (f : Int32) : Int64 := gL s 19463 f
abbrev mCur (s : S1) : Int32 := gI s 16395 0
/-- a thing, coroutine, prototype, frame is there -/
def pT (s : S1) (x : Int32) : Prop := (0 ≤ x ∧ x < 4000) ∧ gI s 18687 x = 1
def pC (s : S1) (x : Int32) : Prop := (0 ≤ x ∧ x < 32) ∧ gI s 19071 x = 1
def pP (s : S1) (x : Int32) : Prop := (0 ≤ x ∧ x < 250) ∧ gI s 18559 x = 1
def pF (s : S1) (x : Int32) : Prop := (0 ≤ x ∧ x < 6400) ∧ gI s 19583 x = 1
theorem clamp_ltN {j : Int32} {n : Int32} (h : j < n) (hn : 0 < n) : j.toNatClampNeg < n.toNatClampNeg := by
  rw [i32_lt] at h hn
  have h0 : (0 : Int32).toInt = 0 := rfl
  unfold Int32.toNatClampNeg
  omega
theorem ok_Pz (t : Nat) (n j : Int32) (s : S1) (Q : Unit → S1 → Prop) : ok (oPz t n j) s Q ↔ ((0 ≤ j ∧ j < n) ∧ (gI s (128 * t + 127) j = 1 ∧ 0 ≤ j ∧ j.toNatClampNeg < cnF t)) ∧ Q () s := ok_ifs rfl Q
theorem ok_Nz (t : Nat) (n j : Int32) (s : S1) (Q : Int32 → S1 → Prop) : ok (oNz t n j) s Q ↔ (0 ≤ j ∧ j < n) ∧ Q (if gI s (128 * t + 127) j = 1 then j else -1) s := ok_ifs rfl Q
theorem ok_Ln (r : Nat) (i : Int32) (s : S1) (Q : Int32 → S1 → Prop) : ok (oLn r i) s Q ↔ Q (Int32.ofNat (lnS s r i)) s := ok_some rfl Q
theorem ok_CL (ra : Nat) (ia na : Int32) (rb : Nat) (ib nb sp dp n : Int32) (s : S1) (Q : Unit → S1 → Prop) : ok (oCL ra ia na rb ib nb sp dp n) s Q ↔ (0 ≤ sp ∧ 0 ≤ dp ∧ 0 ≤ n ∧ sp ≤ na ∧ n ≤ na - sp ∧ dp ≤ nb ∧ n ≤ nb - dp) ∧ Q () (sBf s rb ib (cpL s ra ia rb ib sp dp n)) := ok_ifs rfl Q
theorem ok_Nw (n : Nat × Nat) (k : Nat) (s : S1) (Q : Nat × Nat → S1 → Prop) : ok (oNw n k) s Q ↔ (1 ≤ n.1 ∧ k ≤ n.2) ∧ Q (n.1 - 1, n.2 - k) s := ok_ifs rfl Q
theorem ok_S (f : S1 → S1) (s : S1) (Q : Unit → S1 → Prop) : ok (oS f) s Q ↔ Q () (f s) := ok_some rfl Q
theorem ok_Ks (c : S1 → Prop) (s : S1) (Q : Unit → S1 → Prop) : ok (oKs c) s Q ↔ c s ∧ Q () s := by
  by_cases d : c s
  · have e : oKs c s = some ((), s) := if_pos d
    rw [ok_some e]
    exact ⟨fun q => ⟨d, q⟩, fun q => q.2⟩
  · have e : oKs c s = none := if_neg d
    refine ⟨fun ⟨p, h1, h2⟩ => ?_, fun q => absurd q.1 d⟩
    rw [e] at h1
    cases h1
theorem ok_PzT (j : Int32) (s : S1) (Q : Unit → S1 → Prop) : ok (oPz 145 4000 j) s Q ↔ pT s j ∧ Q () s := by
  rw [ok_Pz]
  exact ⟨fun ⟨⟨a, b, _⟩, q⟩ => ⟨⟨a, b⟩, q⟩, fun ⟨⟨a, b⟩, q⟩ => ⟨⟨a, b, a.1, clamp_ltN a.2 (by decide)⟩, q⟩⟩
theorem ok_PzC (j : Int32) (s : S1) (Q : Unit → S1 → Prop) : ok (oPz 148 32 j) s Q ↔ pC s j ∧ Q () s := by
  rw [ok_Pz]
  exact ⟨fun ⟨⟨a, b, _⟩, q⟩ => ⟨⟨a, b⟩, q⟩, fun ⟨⟨a, b⟩, q⟩ => ⟨⟨a, b, a.1, clamp_ltN a.2 (by decide)⟩, q⟩⟩
theorem ok_PzP (j : Int32) (s : S1) (Q : Unit → S1 → Prop) : ok (oPz 144 250 j) s Q ↔ pP s j ∧ Q () s := by
  rw [ok_Pz]
  exact ⟨fun ⟨⟨a, b, _⟩, q⟩ => ⟨⟨a, b⟩, q⟩, fun ⟨⟨a, b⟩, q⟩ => ⟨⟨a, b, a.1, clamp_ltN a.2 (by decide)⟩, q⟩⟩
theorem clamp_rlt {j : Int32} {n : Int32} (h0 : 0 ≤ j) (h : j.toNatClampNeg < n.toNatClampNeg) : j < n := by
  rw [i32_le] at h0
  rw [i32_lt]
  have h1 : (0 : Int32).toInt = 0 := rfl
  unfold Int32.toNatClampNeg at h
  omega
theorem ok_PrC (j : Int32) (s : S1) (Q : Unit → S1 → Prop) : ok (oPr 148 j) s Q ↔ pC s j ∧ Q () s := by
  rw [ok_Pr]
  exact ⟨fun ⟨⟨a, b, c⟩, q⟩ => ⟨⟨⟨b, clamp_rlt (n := 32) b c⟩, a rfl⟩, q⟩, fun ⟨⟨a, b⟩, q⟩ => ⟨⟨fun _ => b, a.1, clamp_ltN a.2 (by decide)⟩, q⟩⟩
theorem ok_PrP (j : Int32) (s : S1) (Q : Unit → S1 → Prop) : ok (oPr 144 j) s Q ↔ pP s j ∧ Q () s := by
  rw [ok_Pr]
  exact ⟨fun ⟨⟨a, b, c⟩, q⟩ => ⟨⟨⟨b, clamp_rlt (n := 250) b c⟩, a rfl⟩, q⟩, fun ⟨⟨a, b⟩, q⟩ => ⟨⟨fun _ => b, a.1, clamp_ltN a.2 (by decide)⟩, q⟩⟩
theorem ok_PrF (j : Int32) (s : S1) (Q : Unit → S1 → Prop) : ok (oPr 152 j) s Q ↔ pF s j ∧ Q () s := by
  rw [ok_Pr]
  exact ⟨fun ⟨⟨a, b, c⟩, q⟩ => ⟨⟨⟨b, clamp_rlt (n := 6400) b c⟩, a rfl⟩, q⟩, fun ⟨⟨a, b⟩, q⟩ => ⟨⟨fun _ => b, a.1, clamp_ltN a.2 (by decide)⟩, q⟩⟩
/-- a chain: its members fall in key, each has the next smaller one -/
def Ls (M : Int32 → Prop) (K : Int32 → Int) (N : Int32 → Int32) (h : Int32) : Prop :=
  (0 ≤ h → M h) ∧ (∀ x, M x → 0 ≤ h ∧ K x ≤ K h) ∧ (∀ x, M x → 0 ≤ N x → M (N x) ∧ K (N x) < K x) ∧ (∀ x y, M x → M y → K x < K y → 0 ≤ N y ∧ K x ≤ K (N y)) ∧ ∀ x y, M x → M y → K x = K y → x = y
theorem Ls.congr {M M' : Int32 → Prop} {K K' : Int32 → Int} {N N' : Int32 → Int32} {h h' : Int32} (a : Ls M K N h) (hM : ∀ x, M' x ↔ M x) (hK : ∀ x, M x → K' x = K x) (hN : ∀ x, M x → N' x = N x) (hh : h' = h) : Ls M' K' N' h' := by
  subst hh
  obtain ⟨a1, a2, a3, a4, a5⟩ := a
  refine ⟨fun p => (hM _).2 (a1 p), fun x p => ?_, fun x p q => ?_, fun x y p q r => ?_, fun x y p q r => ?_⟩
  · have p' := (hM x).1 p
    have b := a2 x p'
    rw [hK x p', hK _ (a1 b.1)]
    exact b
  · have p' := (hM x).1 p
    rw [hN x p'] at q
    have b := a3 x p' q
    rw [hN x p', hK x p', hK _ b.1]
    exact ⟨(hM _).2 b.1, b.2⟩
  · have p' := (hM x).1 p
    have q' := (hM y).1 q
    rw [hK x p', hK y q'] at r
    have b := a4 x y p' q' r
    rw [hN y q', hK x p', hK _ (a3 y q' b.1).1]
    exact b
  · have p' := (hM x).1 p
    have q' := (hM y).1 q
    rw [hK x p', hK y q'] at r
    exact a5 x y p' q' r
theorem lt_of_ne32 {a b : Int} (h : a ≤ b) (n : a ≠ b) : a < b := by
  omega
/-- the head goes -/
theorem Ls.drop {M : Int32 → Prop} {K : Int32 → Int} {N : Int32 → Int32} {h : Int32} (a : Ls M K N h) (h0 : 0 ≤ h) : Ls (fun x => M x ∧ x ≠ h) K N (N h) := by
  obtain ⟨a1, a2, a3, a4, a5⟩ := a
  have hh := a1 h0
  have lt : ∀ x, M x → x ≠ h → K x < K h := fun x p q => lt_of_ne32 (a2 x p).2 (fun e => q (a5 x h p hh e))
  refine ⟨fun p => ?_, fun x p => ?_, fun x p q => ?_, fun x y p q r => a4 x y p.1 q.1 r, fun x y p q r => a5 x y p.1 q.1 r⟩
  · have b := a3 h hh p
    refine ⟨b.1, fun e => ?_⟩
    have c := b.2
    rw [e] at c
    exact absurd c (by omega)
  · exact a4 x h p.1 hh (lt x p.1 p.2)
  · have b := a3 x p.1 q
    refine ⟨⟨b.1, fun e => ?_⟩, b.2⟩
    have c := b.2
    have d := lt x p.1 p.2
    rw [e] at c
    omega
/-- one goes that is not the head -/
theorem Ls.cut {M : Int32 → Prop} {K : Int32 → Int} {N : Int32 → Int32} {h b z : Int32} (a : Ls M K N h) (hb : M b) (hz : M z) (e : N b = z) (z0 : 0 ≤ z) : Ls (fun x => M x ∧ x ≠ z) K (fun x => if x = b then N z else N x) h := by
  obtain ⟨a1, a2, a3, a4, a5⟩ := a
  have hbz : K z < K b := by
    have := (a3 b hb (by rw [e]; exact z0)).2
    rw [e] at this
    exact this
  refine ⟨fun p => ⟨a1 p, fun c => ?_⟩, fun x p => a2 x p.1, fun x p q => ?_, fun x y p q r => ?_, fun x y p q r => a5 x y p.1 q.1 r⟩
  · have d := (a2 b hb).2
    rw [c] at d
    omega
  · dsimp only at q ⊢
    by_cases c : x = b
    · subst c
      rw [if_pos rfl] at q
      rw [if_pos rfl]
      have d := a3 z hz q
      refine ⟨⟨d.1, fun f => ?_⟩, ?_⟩
      · have g := d.2
        rw [f] at g
        omega
      · have g := d.2
        omega
    · rw [if_neg c] at q
      rw [if_neg c]
      have d := a3 x p.1 q
      refine ⟨⟨d.1, fun f => ?_⟩, d.2⟩
      have g := d.2
      rw [f] at g
      have h1 : ¬ K x < K b := fun l => by
        have := (a4 x b p.1 hb l).2
        rw [e] at this
        omega
      have h2 : ¬ K b < K x := fun l => by
        have := (a4 b x hb p.1 l).2
        rw [f] at this
        omega
      exact c (a5 x b p.1 hb (by omega))
  · dsimp only
    by_cases c : y = b
    · subst c
      rw [if_pos rfl]
      have d := (a4 x y p.1 q.1 r).2
      rw [e] at d
      exact a4 x z p.1 hz (lt_of_ne32 d (fun f => p.2 (a5 x z p.1 hz f)))
    · rw [if_neg c]
      exact a4 x y p.1 q.1 r
/-- a new head -/
theorem Ls.cons {M : Int32 → Prop} {K : Int32 → Int} {N : Int32 → Int32} {h z : Int32} (a : Ls M K N h) (z0 : 0 ≤ z) (e : N z = h) (hk : ∀ x, M x → K x < K z) : Ls (fun x => M x ∨ x = z) K N z := by
  obtain ⟨a1, a2, a3, a4, a5⟩ := a
  refine ⟨fun _ => .inr rfl, fun x p => ⟨z0, ?_⟩, fun x p q => ?_, fun x y p q r => ?_, fun x y p q r => ?_⟩
  · rcases p with p | p
    · have := hk x p
      omega
    · rw [p]
      exact Int.le_refl _
  · rcases p with p | p
    · exact ⟨.inl (a3 x p q).1, (a3 x p q).2⟩
    · subst p
      rw [e] at q ⊢
      exact ⟨.inl (a1 q), hk _ (a1 q)⟩
  · rcases q with q | q
    · rcases p with p | p
      · exact a4 x y p q r
      · subst p
        have := hk y q
        exact absurd r (by omega)
    · subst q
      rw [e]
      rcases p with p | p
      · exact a2 x p
      · subst p
        exact absurd r (by omega)
  · rcases p with p | p
    · rcases q with q | q
      · exact a5 x y p q r
      · subst q
        have := hk x p
        exact absurd r (by omega)
    · rcases q with q | q
      · subst p
        have := hk y q
        exact absurd r (by omega)
      · rw [p, q]
/-- a new one behind b -/
theorem Ls.ins {M : Int32 → Prop} {K : Int32 → Int} {N : Int32 → Int32} {h b z : Int32} (a : Ls M K N h) (hb : M b) (nz : ¬ M z) (z0 : 0 ≤ z) (e : N z = N b) (k1 : K z < K b) (k2 : 0 ≤ N b → K (N b) < K z) : Ls (fun x => M x ∨ x = z) K (fun x => if x = b then z else N x) h := by
  obtain ⟨a1, a2, a3, a4, a5⟩ := a
  have zb : z ≠ b := fun c => nz (c ▸ hb)
  have sep : ∀ x, M x → K x < K z ∨ K b ≤ K x := fun x p => by
    by_cases c : K x < K b
    · have d := a4 x b p hb c
      have f := k2 d.1
      left
      omega
    · right
      omega
  have low : ∀ x, M x → K x < K z → 0 ≤ N b ∧ K x ≤ K (N b) := fun x p q => a4 x b p hb (by omega)
  refine ⟨fun p => .inl (a1 p), fun x p => ?_, fun x p q => ?_, fun x y p q r => ?_, fun x y p q r => ?_⟩
  · rcases p with p | p
    · exact a2 x p
    · subst p
      have := a2 b hb
      exact ⟨this.1, by omega⟩
  · dsimp only at q ⊢
    by_cases c : x = b
    · rw [if_pos c] at q ⊢
      subst c
      exact ⟨.inr rfl, k1⟩
    · rw [if_neg c] at q ⊢
      rcases p with p | p
      · exact ⟨.inl (a3 x p q).1, (a3 x p q).2⟩
      · subst p
        rw [e] at q ⊢
        exact ⟨.inl (a3 b hb q).1, k2 q⟩
  · dsimp only
    by_cases c : y = b
    · rw [if_pos c]
      refine ⟨z0, ?_⟩
      rcases p with p | p
      · have := sep x p
        rw [c] at r
        omega
      · rw [p]
        exact Int.le_refl _
    · rw [if_neg c]
      rcases q with q | q
      · rcases p with p | p
        · exact a4 x y p q r
        · subst p
          have hby : K b < K y := by
            have := sep y q
            have : K b ≠ K y := fun f => c (a5 b y hb q f).symm
            omega
          have := a4 b y hb q hby
          exact ⟨this.1, by omega⟩
      · subst q
        rw [e]
        rcases p with p | p
        · exact low x p r
        · subst p
          exact absurd r (by omega)
  · have ne : ∀ x, M x → K x ≠ K z := fun x p f => by
      have := sep x p
      omega
    rcases p with p | p
    · rcases q with q | q
      · exact a5 x y p q r
      · subst q
        exact absurd r (ne x p)
    · rcases q with q | q
      · subst p
        exact absurd r.symm (ne y q)
      · rw [p, q]
theorem countP_lt (p q : Nat → Bool) (m n : Nat) (hm : m < n) (h1 : ∀ i, p i = true → q i = true) (h2 : p m = false) (h3 : q m = true) : (List.range n).countP p + 1 ≤ (List.range n).countP q := by
  have le : ∀ k, (List.range k).countP p ≤ (List.range k).countP q := fun k => List.countP_mono_left (fun i _ => h1 i)
  induction n with
  | zero => omega
  | succ n ih =>
    rw [List.range_succ, List.countP_append, List.countP_append]
    by_cases c : m = n
    · subst c
      have := le m
      simp [h2, h3]
      omega
    · have := ih (by omega)
      have d : List.countP p [n] ≤ List.countP q [n] := List.countP_mono_left (fun i _ => h1 i)
      omega

/-- how many of a chain have a larger key -/
noncomputable def lsC (B : Nat) (M : Int32 → Prop) (K : Int32 → Int) (k : Int) : Nat := (List.range B).countP (fun n => @decide (M (Int32.ofNat n) ∧ k < K (Int32.ofNat n)) (Classical.propDecidable _))
theorem ofNat_clamp {y : Int32} (h : 0 ≤ y) : Int32.ofNat y.toNatClampNeg = y := by
  rw [i32_le] at h
  have h0 : (0 : Int32).toInt = 0 := rfl
  rw [← Int32.toInt_inj]
  have := Int32.toInt_lt y
  rw [Int32.toInt_ofNat_of_lt (by unfold Int32.toNatClampNeg; omega)]
  unfold Int32.toNatClampNeg
  omega
theorem lsC_lt {B : Nat} {M : Int32 → Prop} {K : Int32 → Int} {y : Int32} {k : Int} (hM : M y) (h0 : 0 ≤ y) (hy : y.toNatClampNeg < B) (hk : k < K y) : lsC B M K (K y) + 1 ≤ lsC B M K k := by
  have e := ofNat_clamp h0
  refine countP_lt _ _ y.toNatClampNeg B hy (fun i h => ?_) ?_ ?_
  · simp only [decide_eq_true_eq] at h ⊢
    exact ⟨h.1, by omega⟩
  · simp only [decide_eq_false_iff_not]
    rw [e]
    rintro ⟨-, h⟩
    omega
  · simp only [decide_eq_true_eq]
    rw [e]
    exact ⟨hM, hk⟩
theorem lsC_le {B : Nat} {M : Int32 → Prop} {K : Int32 → Int} {y : Int32} {k : Int} (hM : M y) (h0 : 0 ≤ y) (hy : y.toNatClampNeg < B) (hk : K y ≤ k) : lsC B M K k + 1 ≤ B := by
  have e := ofNat_clamp h0
  have h := countP_lt (fun n => @decide (M (Int32.ofNat n) ∧ k < K (Int32.ofNat n)) (Classical.propDecidable _)) (fun _ => true) y.toNatClampNeg B hy (fun i h => rfl) (by
    simp only [decide_eq_false_iff_not]
    rw [e]
    rintro ⟨-, h⟩
    omega) rfl
  have t : (List.range B).countP (fun _ => true) ≤ B := by
    refine Nat.le_trans (List.countP_le_length) ?_
    simp
  unfold lsC
  omega
