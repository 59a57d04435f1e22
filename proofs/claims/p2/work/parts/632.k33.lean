/-! The class: a table gets a new room at the pool's end. -/
theorem cPo.add {s t : S1} {x room : Int32} (h : cPo s) (nx : ∀ y, cLv false t y 5 ↔ (cLv false s y 5 ∨ y = x)) (nxs : ¬ cLv false s x 5) (x0 : 0 ≤ x) (eS : ∀ y, y ≠ x → cS0 t y = cS0 s y) (eR : ∀ y, y ≠ x → cR t y = cR s y) (Sx : cS0 t x = cTop s) (Rx : cR t x = room) (r0 : 0 < room.toInt)
    (top : (cTop t).toInt = (cTop s).toInt + room.toInt) (tl : (cTop t).toInt ≤ 50000) (eo : ∀ p, cOw t p = if p = cTop s then x else cOw s p) (e6 : (cTl t 6).toInt = (cTl s 6).toInt + room.toInt) : cPo t := by
  obtain ⟨S, W, h1, ⟨h2, h2'⟩, h3, h4, h5, h6, h7⟩ := h
  have e0 : (0 : Int32).toInt = 0 := rfl
  rw [i32_le] at x0
  have nt : ∀ p, S p → p ≠ cTop s := fun p sp z => by
    have := (h3 p sp).1
    rw [z] at this
    omega
  have ox : ∀ p, S p → 0 ≤ cOw s p → cOw s p ≠ x := fun p sp o z => by
    have := ((h3 p sp).2.2 o).1
    rw [z] at this
    exact nxs this
  have eo' : ∀ p, S p → cOw t p = cOw s p := fun p sp => by rw [eo, if_neg (nt p sp)]
  have esz : ∀ p, S p → sz t p = sz s p := fun p sp => by
    unfold sz
    rw [eo' p sp]
    by_cases q : cOw s p < 0
    · rw [if_pos q, if_pos q]
    · rw [if_neg q, if_neg q, eR _ (ox p sp (by rw [i32_le]; rw [i32_lt] at q; omega))]
  have owt : cOw t (cTop s) = x := by rw [eo, if_pos rfl]
  have xn : ¬ x < 0 := fun z => by
    rw [i32_lt] at z
    omega
  have szt : sz t (cTop s) = room.toInt := by
    unfold sz
    rw [owt, if_neg xn, Rx]
  obtain ⟨W', hW⟩ : ∃ W' : Int32 → Int, ∀ p, W' p = if p.toInt = (cTop t).toInt then W (cTop s) + room.toInt else W p := ⟨_, fun _ => rfl⟩
  have lo : ∀ p, p.toInt ≤ (cTop s).toInt → W' p = W p := fun p l => by rw [hW, if_neg (by omega)]
  have hi : ∀ p, p.toInt = (cTop t).toInt → W' p = W (cTop s) + room.toInt := fun p l => by rw [hW, if_pos l]
  clear hW
  refine ⟨fun p => S p ∨ p = cTop s, W', by omega, ⟨by rw [lo 0 (by omega)]; exact h2, fun _ => ?_⟩, ?_, ?_, ?_, ?_, ?_⟩
  · by_cases q : 0 < (cTop s).toInt
    · exact .inl (h2' q)
    · exact .inr (toInt_inj (by omega))
  · rintro p (sp | rfl)
    · obtain ⟨a1, a2, a3⟩ := h3 p sp
      rw [esz p sp, eo' p sp]
      refine ⟨by omega, fun p' e => ⟨fun _ => ?_, ?_⟩, fun o => ?_⟩
      · by_cases q : p'.toInt < (cTop s).toInt
        · exact .inl ((a2 p' e).1 q)
        · exact .inr (toInt_inj (by omega))
      · rw [lo p' (by omega), lo p (by omega)]
        exact (a2 p' e).2
      · have w := a3 o
        exact ⟨(nx _).2 (.inl w.1), (eS _ (ox p sp o)).trans w.2⟩
    · rw [szt, owt]
      refine ⟨by omega, fun p' e => ⟨fun l => by omega, ?_⟩, fun _ => ⟨(nx x).2 (.inr rfl), Sx⟩⟩
      rw [if_neg xn, hi p' (by omega), lo _ (Int.le_refl _)]
  · rintro p q (sp | rfl) (sq | rfl) l
    · rw [esz p sp]
      exact h4 p q sp sq l
    · rw [esz p sp]
      exact (h3 p sp).1.2.2
    · have := (h3 q sq).1
      omega
    · omega
  · intro y hy ry
    by_cases q : y = x
    · rw [q, Sx]
      exact ⟨.inr rfl, owt⟩
    · have w := ((nx y).1 hy).resolve_right q
      rw [eR y q] at ry
      have v := h5 y w ry
      rw [eS y q]
      exact ⟨.inl v.1, (eo' _ v.1).trans v.2⟩
  · rw [hi _ rfl, h6, e6]
  · intro p q hp hq l
    have bq : (S q ∨ q = cTop s) ∨ q.toInt = (cTop t).toInt := by
      rcases hq with (z | z) | z
      · exact .inl (.inl z)
      · exact .inl (.inr z)
      · exact .inr (by rw [z])
    have bp : (S p ∨ p = cTop s) ∨ p.toInt = (cTop t).toInt := by
      rcases hp with (z | z) | z
      · exact .inl (.inl z)
      · exact .inl (.inr z)
      · exact .inr (by rw [z])
    have le : ∀ p, (S p ∨ p = cTop s) → p.toInt ≤ (cTop s).toInt := fun p z => by
      rcases z with z | z
      · have := (h3 p z).1
        omega
      · rw [z]
        exact Int.le_refl _
    rcases bq with bq | bq
    · have lq := le q bq
      rcases bp with bp | bp
      · rw [lo p (le p bp), lo q lq]
        exact h7 p q bp bq l
      · omega
    · rw [hi q bq]
      rcases bp with bp | bp
      · have lp := le p bp
        rw [lo p lp]
        have := h7 p (cTop s) bp (.inr rfl) lp
        omega
      · rw [hi p bp]
        omega
theorem rp_lv (w t : S1) (y u : Int32) : cLv false (rp w t) y u ↔ cLv false t y u := Iff.rfl
theorem mv_mid {v w T : S1} {x room : Int32} (H : cHI (rp w v)) (hx : cLv false v x 5) (hroom : 0 < room.toInt ∧ room.toInt ≤ 40000) (htop : (cTop v).toInt + room.toInt ≤ 50000) (t6 : (cTl v 6).toInt = (cTl w 6).toInt + room.toInt - (cR v x).toInt) (tj : ∀ j, j ≠ 6 ∧ j ≠ 7 ∧ j ≠ 13 → cTl v j = cTl w j)
    (TI : ∀ f j, gI T f j = if f = 15367 ∧ j = 0 then cTop v + room else if f = 18573 ∧ j = x then 0 else if f = 18572 ∧ j = x then room else if f = 18571 ∧ j = x then cTop v else gI v f j) (TL : ∀ f j, gL T f j = gL v f j)
    (TA : ∀ a j k, a ≠ 125 ∧ a ≠ 127 → gA T a j k = gA v a j k) (T5 : ∀ k, cHd T k = if (cTop v).toInt ≤ k.toInt ∧ k.toInt < (cTop v).toInt + room.toInt then -1 else cHd v k) (T7 : ∀ k, cOw T k = if k = cTop v then x else if 0 < (cR v x).toInt ∧ k = cS0 v x then -cR v x else cOw v k) (TB : ∀ a j k, gB T a j k = gB v a j k) : cHI T ∧ cHx (rp w v) T := by
  have e0 : (0 : Int32).toInt = 0 := rfl
  have em : (-1 : Int32).toInt = -1 := rfl
  have e5 : (50000 : Int32).toInt = 50000 := rfl
  have e4 : (40000 : Int32).toInt = 40000 := rfl
  have hx' : cLv false (rp w v) x 5 := hx
  obtain ⟨⟨a1, a2, a3, a4, a5⟩, a6, a7⟩ := H.tI hx'
  rw [show cS0 (rp w v) x = cS0 v x from rfl, show cR (rp w v) x = cR v x from rfl, show cTop (rp w v) = cTop v from rfl] at a4
  rw [show cR (rp w v) x = cR v x from rfl] at a2 a3
  rw [show cS0 (rp w v) x = cS0 v x from rfl] at a1
  rw [show cTop (rp w v) = cTop v from rfl] at a5
  have t60 := H.2.2.2.2.2.tl
  rw [rp_T] at t60
  have hk : cHx (rp w v) T := by
    refine ⟨fun f j q => ?_, TL, fun a j k q => ?_, fun a j k _ => TB a j k, fun j q => ?_⟩
    · rw [TI, if_neg (fun z => q.2.2.2.2.2 z.1), if_neg (fun z => q.2.2.1 z.1), if_neg (fun z => q.2.1 z.1), if_neg (fun z => q.1 z.1), rp_I]
    · rw [TA a j k ⟨q.2.2.1, q.2.2.2.2.1⟩, rp_A _ _ _ _ _ q.2.2.2.2.2]
    · rw [rp_T, ← tj j q]
      exact TA _ _ _ (by decide)
  have tS : ∀ y, cS0 T y = if y = x then cTop v else cS0 v y := fun y => (TI 18571 y).trans (by simp)
  have tR : ∀ y, cR T y = if y = x then room else cR v y := fun y => (TI 18572 y).trans (by simp)
  have tE : ∀ y, cE T y = if y = x then 0 else cE v y := fun y => (TI 18573 y).trans (by simp)
  have tT : cTop T = cTop v + room := (TI 15367 0).trans (if_pos ⟨rfl, rfl⟩)
  have eT : (cTop v + room).toInt = (cTop v).toInt + room.toInt := by rw [ktI_add] <;> omega
  have tM : ∀ y, cMt T y = cMt v y := fun y => (TI 18574 y).trans (by simp)
  have po : cPo T := by
    obtain ⟨G, hG⟩ : ∃ G : S1, G = sI (sAf (sAf (rp w v) 127 0 (fun k => if 0 < (cR v x).toInt ∧ k = cS0 v x then -cR v x else cOw v k)) 114 0 (fun j => if j = 6 then cTl w 6 - cR v x else cTl w j)) 18560 x 0 := ⟨_, rfl⟩
    have GI : ∀ f j, gI G f j = if f = 18560 ∧ j = x then 0 else gI v f j := fun f j => by
      rw [hG, gI_sI]
      rfl
    have GO : ∀ k, cOw G k = if 0 < (cR v x).toInt ∧ k = cS0 v x then -cR v x else cOw v k := fun k => by
      rw [hG]
      unfold cOw
      rw [gA_sI, gA_sAf, if_neg (fun z => absurd z.1 (by decide)), gA_sAf, if_pos ⟨rfl, rfl⟩]
    have G6 : cTl G 6 = cTl w 6 - cR v x := by
      rw [hG]
      unfold cTl
      rw [gA_sI, gA_sAf, if_pos ⟨rfl, rfl⟩, if_pos rfl]
    clear hG
    have gty : ∀ y, cTy G y = if y = x then 0 else cTy v y := fun y => (GI 18560 y).trans (by simp)
    have g : ∀ f j, f ≠ 18560 → gI G f j = gI v f j := fun f j q => by rw [GI, if_neg (fun z => q z.1)]
    have sub6 : (cTl w 6 - cR v x).toInt = (cTl w 6).toInt - (cR v x).toInt := by rw [ktI_sub] <;> omega
    have pG : cPo G := cPo.free (x := x) H.2.2.2.2.2 hx' ⟨a2, by show (cR v x).toInt ≤ 50000; omega⟩ (g _ _ (by decide)) gty (fun y => g _ _ (by decide)) (fun y => g _ _ (by decide)) (g _ _ (by decide)) (fun p => by
      rw [GO p, show cOw (rp w v) p = cOw v p from rp_A _ _ _ _ _ (by decide)]
      rfl) (by rw [G6, sub6, rp_T]; rfl)
    have lvG : ∀ y, cLv false G y 5 ↔ (cLv false v y 5 ∧ y ≠ x) := fun y => by
      rw [cLv_f, cLv_f, gty, show cN G = cN v from g _ _ (by decide)]
      by_cases q : y = x
      · simp only [q, if_true, ne_eq, not_true_eq_false, and_false, iff_false]
        exact fun z => absurd z.2 (by decide)
      · simp [q]
    refine cPo.add (x := x) (room := room) pG (fun y => ?_) (fun z => ((lvG x).1 z).2 rfl) hx.1.1 (fun y q => ?_) (fun y q => ?_) ?_ ?_ hroom.1 ?_ ?_ (fun p => ?_) ?_
    · rw [hk.lv, rp_lv, lvG]
      by_cases q : y = x
      · rw [q]
        exact ⟨fun _ => .inr rfl, fun _ => hx⟩
      · exact ⟨fun z => .inl ⟨z, q⟩, fun z => z.elim (fun z => z.1) (fun z => absurd z q)⟩
    · rw [tS, if_neg q]
      exact (g _ _ (by decide)).symm
    · rw [tR, if_neg q]
      exact (g _ _ (by decide)).symm
    · rw [tS, if_pos rfl]
      exact (g _ _ (by decide)).symm
    · rw [tR, if_pos rfl]
    · rw [tT, eT, show cTop G = cTop v from g _ _ (by decide)]
    · rw [tT, eT]
      exact htop
    · rw [T7, GO, show cTop G = cTop v from g _ _ (by decide)]
    · rw [show cTl T 6 = cTl v 6 from TA _ _ _ (by decide), G6, sub6, t6]
      omega
  refine ⟨H.tx hk po (fun y hy => ?_), hk⟩
  have hy' : cLv false v y 5 := hy
  obtain ⟨b1, b2, b3⟩ := H.tbv hy
  obtain ⟨b4, b5, b6⟩ := b3 hy.2.1
  by_cases q : y = x
  · subst q
    unfold tbl cTs
    rw [tS, tR, tE, if_pos rfl, if_pos rfl, if_pos rfl, tT, tM, hk.lv']
    refine ⟨b1, fun i i0 i1 => ?_, fun _ => ⟨⟨⟨?_, ?_⟩, ⟨?_, ?_⟩, ?_, by decide, ?_, fun z => ?_⟩, fun i i0 i1 => ?_, fun i i0 i1 => ?_⟩⟩
    · rw [i32_le] at i0
      rw [i32_lt] at i1
      omega
    · rw [i32_le]
      omega
    · rw [i32_le]
      omega
    · rw [i32_le]
      omega
    · rw [i32_le]
      omega
    · exact Int32.le_refl _
    · rw [i32_le]
      omega
    · rw [z] at hroom
      exact absurd hroom.1 (by decide)
    · rw [i32_le] at i0
      rw [i32_lt] at i1
      have ei : (cTop v + i).toInt = (cTop v).toInt + i.toInt := by rw [ktI_add] <;> omega
      rw [T5, if_pos (by omega)]
      exact ⟨by decide, by decide⟩
    · rw [i32_le] at i0
      rw [i32_lt] at i1
      omega
  · obtain ⟨⟨d1, d2, d3, d4, d5⟩, d6, d7⟩ := H.tI hy
    rw [show cS0 (rp w v) y = cS0 v y from rfl, show cR (rp w v) y = cR v y from rfl, show cTop (rp w v) = cTop v from rfl] at d4
    rw [show cR (rp w v) y = cR v y from rfl] at d2 d3 d7
    rw [show cS0 (rp w v) y = cS0 v y from rfl] at d1
    rw [show cE (rp w v) y = cE v y from rfl] at d6 d7
    have lt : ∀ i, i < cE v y → i < cR v y := fun i a => by
      rw [i32_lt] at a ⊢
      omega
    unfold tbl cTs
    rw [tS, tR, tE, if_neg q, if_neg q, if_neg q, tT, tM, hk.lv']
    refine ⟨b1, fun i i0 i1 => ?_, fun _ => ⟨⟨b4.1, b4.2.1, ?_, b4.2.2.2⟩, fun i i0 i1 => ?_, fun i i0 i1 => ?_⟩⟩
    · rw [show cKk T (cS0 v y + i) = cKk (rp w v) (cS0 v y + i) from (TA _ _ _ (by decide)).trans (rp_A _ _ _ _ _ (by decide)).symm, show cVk T (cS0 v y + i) = cVk (rp w v) (cS0 v y + i) from (TA _ _ _ (by decide)).trans (rp_A _ _ _ _ _ (by decide)).symm, show cKv T (cS0 v y + i) = cKv (rp w v) (cS0 v y + i) from TB _ _ _, show cVv T (cS0 v y + i) = cVv (rp w v) (cS0 v y + i) from TB _ _ _]
      exact b2 i i0 i1
    · rw [i32_le, eT, ktI_add] <;> omega
    · have b := b5 i i0 i1
      rw [i32_le] at i0
      rw [i32_lt] at i1
      have ei : (cS0 v y + i).toInt = (cS0 v y).toInt + i.toInt := by rw [ktI_add] <;> omega
      rw [T5, if_neg (by omega)]
      rw [show cHd (rp w v) (cS0 (rp w v) y + i) = cHd v (cS0 v y + i) from rp_A _ _ _ _ _ (by decide)] at b
      exact b
    · rw [show cCh T (cS0 v y + i) = cCh (rp w v) (cS0 v y + i) from (TA _ _ _ (by decide)).trans (rp_A _ _ _ _ _ (by decide)).symm]
      exact b6 i i0 i1
