/-! Something is made. What else is there stays. -/
def Sm (t : Nat) (j : Int32) (q q' : PL) (s s' : S1) : Prop := (∀ r i, ¬ (r = t ∧ i = j) → q'.1 r i = q.1 r i) ∧ (∀ r k i, k < 128 → ¬ (r = t ∧ i = j) → gI s' (128 * r + k) i = gI s (128 * r + k) i ∧ gL s' (128 * r + k) i = gL s (128 * r + k) i) ∧ ∀ r i x, ¬ (r = t ∧ i = j) → gA s' r i x = gA s r i x ∧ gB s' r i x = gB s r i x
/-- something of it refers to that one -/
def Rfr (s : S1) (r : Nat) (i : Int32) (t : Nat) (j : Int32) : Prop :=
  (rkF r = 0 ∧ ∃ k, k < nfF r ∧ tgG (128 * r + k) = t ∧ (((tcG (128 * r + k) = 2 ∨ tcG (128 * r + k) = 5) ∧ i = j) ∨ (tcG (128 * r + k) = 4 ∧ gI s (128 * r + k) i = j))) ∨
  (teF r = t ∧ (rkF r = 5 ∨ rkF r = 8 ∨ (rkF r = 9 ∧ ∃ x, x < lnF r ∧ i * 200 + Int32.ofNat x = j)))
section SM
variable {t : Nat} {j : Int32} {q q' : PL} {s s' : S1} {P : PP} {H H1 : Heap}
theorem Sm.p (h : Sm t j q q' s s') {r : Nat} {i : Int32} (hne : ¬ (r = t ∧ i = j)) : prs s' r i ↔ prs s r i := by
  unfold prs
  rw [(h.2.1 r 127 i (by decide) hne).1]
theorem Sm.l (h : Sm t j q q' s s') {r : Nat} {i : Int32} (hne : ¬ (r = t ∧ i = j)) : lnS s' r i = lnS s r i := by
  unfold lnS
  rw [(h.2.1 r 126 i (by decide) hne).1]
theorem Sm.f (h : Sm t j q q' s s') {r k : Nat} {i : Int32} (hne : ¬ (r = t ∧ i = j)) (hr : rkF r = 0) (hk : k < nfF r) (hR : ¬ Rfr s r i t j) : fv q' s' r i k = fv q s r i k := by
  have hk1 : k < 128 := by have := nfF_le r; omega
  obtain ⟨e1, e2⟩ := h.2.1 r k i hk1 hne
  have hf : ∀ hc : tcG (128 * r + k) = 2 ∨ tcG (128 * r + k) = 5, ¬ (tgG (128 * r + k) = t ∧ i = j) := fun hc z => hR (Or.inl ⟨hr, k, hk, z.1, Or.inl ⟨hc, z.2⟩⟩)
  have h4 : ∀ hc : tcG (128 * r + k) = 4, ¬ (tgG (128 * r + k) = t ∧ gI s (128 * r + k) i = j) := fun hc z => hR (Or.inl ⟨hr, k, hk, z.1, Or.inr ⟨hc, z.2⟩⟩)
  unfold fv
  split
  · rw [e1]
  · rw [e2]
  · next e => rw [h.1 _ _ (hf (Or.inl e))]
  · next e =>
    rw [e1]
    unfold vr
    rw [h.1 _ _ (h4 e)]
  · next e => rw [h.1 _ _ (hf (Or.inr e)), (h.2.1 _ 127 _ (by decide) (hf (Or.inr e))).1]
  · rfl
theorem Sm.a (h : Sm t j q q' s s') {r : Nat} {i : Int32} (hne : ¬ (r = t ∧ i = j)) (hl : rkF r = 9 → lnF r ≠ 0) {x : Nat} (hx : x < lnS s r i) (hR : ¬ Rfr s r i t j) : avP P q' s' r i x = avP P q s r i x := by
  unfold avP
  by_cases h6 : rkF r = 6
  · rw [if_pos h6, if_pos h6]
  rw [if_neg h6, if_neg h6]
  unfold av
  split
  · rw [(h.2.2 _ _ _ hne).2]
  · next e => rw [h.1 _ _ fun z => hR (Or.inr ⟨z.1, Or.inl e⟩)]
  · next e => exact absurd e h6
  · next e =>
    have hz : ¬ (teF r = t ∧ Int32.ofNat x = j) := fun z => hR (Or.inr ⟨z.1, Or.inr (Or.inl e)⟩)
    rw [h.1 _ _ hz, (h.2.1 _ 127 _ (by decide) hz).1]
  · next e =>
    have hz : ¬ (teF r = t ∧ i * 200 + Int32.ofNat x = j) := fun z => hR (Or.inr ⟨z.1, Or.inr (Or.inr ⟨e, x, by unfold lnS at hx; rw [if_neg (hl e)] at hx; exact hx, z.2⟩)⟩)
    rw [h.1 _ _ hz, (h.2.1 _ 127 _ (by decide) hz).1]
  · rw [(h.2.2 _ _ _ hne).1]
theorem ln9 {r : Nat} (h : rkF r = 9) : lnF r ≠ 0 := by
  have : r = 151 := by
    by_cases hr : r < 160
    · exact (by decide +kernel : ∀ r, r < 160 → rkF r = 9 → r = 151) r hr h
    · exfalso
      revert h
      unfold rkF
      split <;> first | omega | decide
  rw [this]
  decide
theorem cellAt_lt {r : Nat} {i : Int32} (h : cellAt P q s r i H) : q.1 r i < H.size := by
  unfold cellAt at h
  by_cases h0 : rkF r = 0
  · rw [if_pos h0] at h
    obtain ⟨cell, h1, -⟩ := h
    exact (Array.getElem?_eq_some_iff.mp h1).1
  · rw [if_neg h0] at h
    exact (Array.getElem?_eq_some_iff.mp h).1
theorem Sm.cell (h : Sm t j q q' s s') {r : Nat} {i : Int32} (hne : ¬ (r = t ∧ i = j)) (hR : ¬ Rfr s r i t j) (hH : H1[q.1 r i]? = H[q.1 r i]?) (hc : cellAt P q s r i H) : cellAt P q' s' r i H1 := by
  unfold cellAt at hc ⊢
  rw [h.1 _ _ hne]
  by_cases h0 : rkF r = 0
  · rw [if_pos h0] at hc ⊢
    exact (hc.kept hH).to fun k hk => (h.f hne h0 hk hR).symm
  · rw [if_neg h0] at hc ⊢
    rw [hH, hc, h.l hne]
    exact congrArg some (arrV_congr fun x hx => (h.a hne (fun e => ln9 e) hx hR).symm)
/-- one is made (or found), and those that hold it know of it -/
theorem Wd.mk (h : Wd P q s H) (hs : Sm t j q q' s s') (hz : H1.size = q'.2.1) (ht : tot H1 = q'.2.2) (hcap : q'.2.1 ≤ P.2.2.2.1 ∧ q'.2.2 ≤ P.2.2.2.2) (Ho : Nat → Int32 → Prop)
    (hc : ∀ r i, prs s r i → ¬ (r = t ∧ i = j) → ¬ Ho r i → H1[q.1 r i]? = H[q.1 r i]? ∧ ¬ Rfr s r i t j)
    (hh : ∀ r i, prs s r i → ¬ (r = t ∧ i = j) → Ho r i → cellAt P q' s' r i H1)
    (hn : cellAt P q' s' t j H1 ∧ P.1 ≤ q'.1 t j ∧ lnS s' t j < 2147483648 ∧ ∀ r i, prs s r i → ¬ (r = t ∧ i = j) → q.1 r i ≠ q'.1 t j) (hp : prs s' t j) (hkd : Kd s') (hby : rkF t = 2 → ∀ x, fits .byte (.int (gA s' t j x)) = true) : Wd P q' s' H1 := by
  obtain ⟨h1, h2, h3, h4, h5, h6, h7, h8, h9⟩ := h
  refine ⟨hz, ht, fun r i hp' => ?_, fun r1 i1 r2 i2 a b e => ?_, hcap.1, hcap.2, fun r i x hk => ?_, fun r i a b c => ?_, hkd⟩
  · by_cases hne : r = t ∧ i = j
    · obtain ⟨rfl, rfl⟩ := hne
      exact ⟨hn.1, hn.2.1, hn.2.2.1⟩
    · have hp2 := (hs.p hne).mp hp'
      obtain ⟨c1, c2, c3⟩ := h3 r i hp2
      refine ⟨?_, by rw [hs.1 _ _ hne]; exact c2, by rw [hs.l hne]; exact c3⟩
      by_cases ho : Ho r i
      · exact hh r i hp2 hne ho
      · obtain ⟨e1, e2⟩ := hc r i hp2 hne ho
        exact hs.cell hne e2 e1 c1
  · by_cases n1 : r1 = t ∧ i1 = j
    · by_cases n2 : r2 = t ∧ i2 = j
      · exact ⟨n1.1.trans n2.1.symm, n1.2.trans n2.2.symm⟩
      · rw [n1.1, n1.2, hs.1 _ _ n2] at e
        exact absurd e.symm (hn.2.2.2 r2 i2 ((hs.p n2).mp b) n2)
    · by_cases n2 : r2 = t ∧ i2 = j
      · rw [n2.1, n2.2, hs.1 _ _ n1] at e
        exact absurd e (hn.2.2.2 r1 i1 ((hs.p n1).mp a) n1)
      · rw [hs.1 _ _ n1, hs.1 _ _ n2] at e
        exact h4 r1 i1 r2 i2 ((hs.p n1).mp a) ((hs.p n2).mp b) e
  · by_cases hne : r = t ∧ i = j
    · obtain ⟨rfl, rfl⟩ := hne
      exact hby hk x
    · rw [(hs.2.2 r i x hne).1]
      exact h7 r i x hk
  · by_cases hne : r = t ∧ i = j
    · obtain ⟨rfl, rfl⟩ := hne
      exact hp
    · rw [hs.1 _ _ hne] at c
      exact (hs.p hne).mpr (h8 r i a b c)
/-- one goes that nothing holds -/
theorem Wd.drop (h : Wd P q s H) (hs : Sm t j q q' s s') (hq : q'.2 = q.2) (hc : ∀ r i, prs s r i → ¬ (r = t ∧ i = j) → ¬ Rfr s r i t j) (hp : ¬ prs s' t j) (hx : P.2.2.2.1 ≤ q'.1 t j) (hkd : Kd s') (hby : rkF t = 2 → ∀ x, fits .byte (.int (gA s' t j x)) = true) : Wd P q' s' H := by
  obtain ⟨h1, h2, h3, h4, h5, h6, h7, h8, h9⟩ := h
  have ne : ∀ r i, prs s' r i → ¬ (r = t ∧ i = j) := fun r i hp' z => hp (z.1 ▸ z.2 ▸ hp')
  refine ⟨by rw [hq]; exact h1, by rw [hq]; exact h2, fun r i hp' => ?_, fun r1 i1 r2 i2 a b e => ?_, by rw [hq]; exact h5, by rw [hq]; exact h6, fun r i x hk => ?_, fun r i a b c => ?_, hkd⟩
  · have hne := ne r i hp'
    have hp2 := (hs.p hne).mp hp'
    obtain ⟨c1, c2, c3⟩ := h3 r i hp2
    exact ⟨hs.cell hne (hc r i hp2 hne) rfl c1, by rw [hs.1 _ _ hne]; exact c2, by rw [hs.l hne]; exact c3⟩
  · have n1 := ne r1 i1 a
    have n2 := ne r2 i2 b
    rw [hs.1 _ _ n1, hs.1 _ _ n2] at e
    exact h4 r1 i1 r2 i2 ((hs.p n1).mp a) ((hs.p n2).mp b) e
  · by_cases hne : r = t ∧ i = j
    · obtain ⟨rfl, rfl⟩ := hne
      exact hby hk x
    · rw [(hs.2.2 r i x hne).1]
      exact h7 r i x hk
  · by_cases hne : r = t ∧ i = j
    · obtain ⟨rfl, rfl⟩ := hne
      omega
    · rw [hs.1 _ _ hne] at c
      exact (hs.p hne).mpr (h8 r i a b c)
end SM
/-! Who holds what, by the tables. -/
theorem big_np {s : S1} {r : Nat} {i : Int32} (h : prs s r i) : r < 160 := by
  by_cases hr : r < 160
  · exact hr
  · exfalso
    have h2 := h.2.2
    revert h2
    unfold cnF
    split <;> first | omega | (intro z; omega)
theorem ho_ok : ∀ r, r < 160 → ∀ k, k < nfF r → (tcG (128 * r + k) = 2 ∨ tcG (128 * r + k) = 5 ∨ tcG (128 * r + k) = 4) → 128 * r + k ∈ hoF (tgG (128 * r + k)) := by decide +kernel
theorem hr_ok : ∀ r, r < 160 → (rkF r = 5 ∨ rkF r = 8 ∨ rkF r = 9) → r ∈ hrF (teF r) := by decide +kernel
/-- what refers to one of a role is among those of the tables -/
theorem Rfr.of {s : S1} {r t : Nat} {i j : Int32} (hr : r < 160) (h : Rfr s r i t j) : (∃ k, k < nfF r ∧ 128 * r + k ∈ hoF t ∧ (((tcG (128 * r + k) = 2 ∨ tcG (128 * r + k) = 5) ∧ i = j) ∨ (tcG (128 * r + k) = 4 ∧ gI s (128 * r + k) i = j))) ∨ (r ∈ hrF t ∧ (rkF r = 9 → ∃ x, x < lnF r ∧ i * 200 + Int32.ofNat x = j)) := by
  rcases h with ⟨-, k, hk, rfl, h⟩ | ⟨rfl, h⟩
  · refine Or.inl ⟨k, hk, ho_ok r hr k hk ?_, h⟩
    rcases h with ⟨h | h, -⟩ | ⟨h, -⟩
    · exact Or.inl h
    · exact Or.inr (Or.inl h)
    · exact Or.inr (Or.inr h)
  · refine Or.inr ⟨hr_ok r hr ?_, fun h9 => ?_⟩
    · rcases h with h | h | h
      · exact Or.inl h
      · exact Or.inr (Or.inl h)
      · exact Or.inr (Or.inr h.1)
    · rcases h with h | h | h
      · rw [h] at h9; cases h9
      · rw [h] at h9; cases h9
      · exact h.2
