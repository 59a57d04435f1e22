/-! Rows hold values; the heap with its rows and its numbers. -/
def RvV (s : S1) (r : Nat) : Prop := ∀ i, 0 ≤ i → i < gI s (128 * r + 2) 0 → Vl false s (gA s (r + 1) 0 i) (gB s (r + 2) 0 i)
def Rws (s : S1) : Prop := (0 ≤ v_hand_n s ∧ v_hand_n s ≤ 64) ∧ (0 ≤ v_args_n s ∧ v_args_n s ≤ 400) ∧ (0 ≤ v_results_n s ∧ v_results_n s ≤ 400) ∧ (0 ≤ v_ended_n s ∧ v_ended_n s ≤ 400) ∧ RwV false s 16 ∧ RvV s 7 ∧ RvV s 10 ∧ RvV s 13 ∧ Vl false s (f_errorKind s) (f_errorValue s) ∧ Vl false s (f_calledKind s) (f_called s)
def GG (s : S1) : Prop := Gm s ∧ Nm s ∧ Ex s ∧ Rws s ∧ Tc s
theorem Vl.kind7 {m : Bool} {s : S1} {k : Int32} {v : Int64} (h : Vl m s k v) : 0 ≤ k ∧ k ≤ 7 := by
  rcases h with h | h | ⟨h1, h2, h3, h4, h5⟩
  · exact ⟨h.1, Int32.le_of_lt (Int32.lt_trans h.2 (by decide))⟩
  · rw [h.1]
    exact ⟨by decide, by decide⟩
  · exact ⟨Int32.le_trans (by decide) h1, h2⟩
theorem Wl.vl {m : Bool} {s : S1} {k : Int32} {v : Int64} (h : Wl m s k v) (hk : k ≤ 7) : Vl m s k v := by
  rcases h with h | h
  · exact h
  · rw [h.1] at hk
    exact absurd hk (by decide)
theorem Vl.lv {s s' : S1} {k : Int32} {v : Int64} (h : Vl false s k v) (hl : ∀ x j, Lv false s x j → Lv false s' x j) : Vl false s' k v := by
  rcases h with h | h | ⟨h1, h2, h3, h4, h5⟩
  · exact Or.inl h
  · exact Or.inr (Or.inl h)
  · exact Or.inr (Or.inr ⟨h1, h2, h3, h4, hl _ _ h5⟩)
theorem Wl.lv {s s' : S1} {k : Int32} {v : Int64} (h : Wl false s k v) (hl : ∀ x j, Lv false s x j → Lv false s' x j) : Wl false s' k v := h.imp (fun z => z.lv hl) fun z => ⟨z.1, z.2.1, z.2.2.1, hl _ _ z.2.2.2⟩
theorem RvV.w {s : S1} {r : Nat} (h : RvV s r) : RwV false s r := fun i a b => by
  rw [Int32.zero_add] at b
  exact Or.inl (h i a b)
theorem Rws.gcx {s s' : S1} (h : Rws s) (hm : Gm s') (hg : Gcx s s') (hl : Kl s s') : Rws s' := by
  obtain ⟨n1, n2, n3, n4, w1, w2, w3, w4, er, ca⟩ := h
  have e92 : f_noCollection s' = f_noCollection s := hg.I 92 (by decide) 0
  have eB : ∀ a, a ≠ 6 → ∀ i j, gB s' a i j = gB s a i j := fun a p i j => hg.2.2.2.1 a i j p
  have e76 : gL s' 76 0 = gL s 76 0 := hg.2.1 76 0 (by decide) (by decide)
  have row : ∀ r, (128 * r + 2 ≠ 34 ∧ 128 * r + 2 ≠ 35 ∧ 128 * r + 2 ≠ 36 ∧ 128 * r + 2 ≠ 39 ∧ 128 * r + 2 ≠ 54 ∧ 128 * r + 2 ≠ 64 ∧ 128 * r + 2 ≠ 66 ∧ 128 * r + 2 ≠ 69 ∧ 128 * r + 2 ≠ 73 ∧ 128 * r + 2 ≠ 3584 ∧ 128 * r + 2 ≠ 3587) → (r + 1 ≠ 5 ∧ r + 1 ≠ 58 ∧ r + 1 ≠ 59 ∧ r + 1 ≠ 62 ∧ r + 1 ≠ 65 ∧ r + 1 ≠ 66 ∧ r + 1 ≠ 68 ∧ r + 1 ≠ 75) → r + 2 ≠ 6 → RvV s r → (f_noCollection s = 0 → RwV false s' r) → RvV s' r := fun r a b c d e i p q => by
    rw [hg.I (128 * r + 2) a] at q
    have v := d i p q
    by_cases z : f_noCollection s = 0
    · have w := e z i p (by rw [Int32.zero_add, hg.I (128 * r + 2) a]; exact q)
      refine w.vl ?_
      rw [hg.A (r + 1) b]
      exact v.kind7.2
    · rw [hg.A (r + 1) b, eB (r + 2) c]
      exact v.lv (hl.2 z).1
  have rt : f_noCollection s = 0 → RtV false s' := fun z => (hm.2 (e92.trans z)).2
  refine ⟨?_, ?_, ?_, ?_, ?_, row 7 (by decide) (by decide) (by decide) w2 (fun z => (rt z).2.2.2.2.1), row 10 (by decide) (by decide) (by decide) w3 (fun z => (rt z).2.2.2.2.2.1), row 13 (by decide) (by decide) (by decide) w4 (fun z => (rt z).2.2.2.2.2.2.2.1), ?_, ?_⟩
  · show 0 ≤ gI s' 2050 0 ∧ gI s' 2050 0 ≤ 64
    rw [hg.I 2050 (by decide)]
    exact n1
  · show 0 ≤ gI s' 898 0 ∧ gI s' 898 0 ≤ 400
    rw [hg.I 898 (by decide)]
    exact n2
  · show 0 ≤ gI s' 1282 0 ∧ gI s' 1282 0 ≤ 400
    rw [hg.I 1282 (by decide)]
    exact n3
  · show 0 ≤ gI s' 1666 0 ∧ gI s' 1666 0 ≤ 400
    rw [hg.I 1666 (by decide)]
    exact n4
  · by_cases z : f_noCollection s = 0
    · exact (rt z).2.2.2.1
    · intro i p q
      have q' : i < 0 + gI s' 2050 0 := q
      rw [hg.I 2050 (by decide)] at q'
      have := w1 i p q'
      show Wl false s' (gA s' 17 0 i) (gB s' 18 0 i)
      rw [hg.A 17 (by decide), eB 18 (by decide)]
      exact this.lv (hl.2 z).1
  · by_cases z : f_noCollection s = 0
    · exact (rt z).2.2.2.2.2.2.1
    · exact (hl.2 z).2 er
  · by_cases z : f_noCollection s = 0
    · exact (rt z).2.2.2.2.2.2.2.2.1
    · show Vl false s' (gI s' 75 0) (gL s' 76 0)
      rw [hg.I 75 (by decide), e76]
      exact ca.lv (hl.2 z).1
theorem Rws.mk2 {s s' : S1} {x k : Int32} (h : Rws s) (hs : Mk2 s s' x k) : Rws s' := by
  obtain ⟨n1, n2, n3, n4, w1, w2, w3, w4, er, ca⟩ := h
  have row : ∀ r, (128 * r + 2 ≠ 33 ∧ 128 * r + 2 ≠ 34 ∧ 128 * r + 2 ≠ 37 ∧ 128 * r + 2 ≠ 40 ∧ 128 * r + 2 ≠ 41 ∧ 128 * r + 2 ≠ 42 ∧ 128 * r + 2 ≠ 43 ∧ 128 * r + 2 ≠ 54 ∧ 128 * r + 2 ≠ 38 ∧ 128 * r + 2 ≠ 44) → (r + 1 ≠ 5 ∧ r + 1 ≠ 58 ∧ r + 1 ≠ 60 ∧ r + 1 ≠ 61 ∧ r + 1 ≠ 62 ∧ r + 1 ≠ 63 ∧ r + 1 ≠ 64 ∧ r + 1 ≠ 65 ∧ r + 1 ≠ 73 ∧ r + 1 ≠ 67 ∧ r + 1 ≠ 68) → r + 2 ≠ 6 → RvV s r → RvV s' r := fun r a b d c => by
    unfold RvV at *
    simp only [hs.I (128 * r + 2) a, hs.A (r + 1) b, hs.B (r + 2) d]
    exact fun i p q => (c i p q).mk2 hs
  refine ⟨?_, ?_, ?_, ?_, ?_, row 7 (by decide) (by decide) (by decide) w2, row 10 (by decide) (by decide) (by decide) w3, row 13 (by decide) (by decide) (by decide) w4, ?_, ?_⟩
  · show 0 ≤ gI s' 2050 0 ∧ gI s' 2050 0 ≤ 64
    rw [hs.I 2050 (by decide)]
    exact n1
  · show 0 ≤ gI s' 898 0 ∧ gI s' 898 0 ≤ 400
    rw [hs.I 898 (by decide)]
    exact n2
  · show 0 ≤ gI s' 1282 0 ∧ gI s' 1282 0 ≤ 400
    rw [hs.I 1282 (by decide)]
    exact n3
  · show 0 ≤ gI s' 1666 0 ∧ gI s' 1666 0 ≤ 400
    rw [hs.I 1666 (by decide)]
    exact n4
  · intro i p q
    have q' : i < 0 + gI s' 2050 0 := q
    rw [hs.I 2050 (by decide)] at q'
    have := w1 i p q'
    show Wl false s' (gA s' 17 0 i) (gB s' 18 0 i)
    rw [hs.A 17 (by decide), hs.B 18 (by decide)]
    exact this.mk2 hs
  · show Vl false s' (gI s' 64 0) (gL s' 65 0)
    rw [hs.I 64 (by decide), hs.L]
    exact er.mk2 hs
  · show Vl false s' (gI s' 75 0) (gL s' 76 0)
    rw [hs.I 75 (by decide), hs.L]
    exact ca.mk2 hs
theorem Gcx.pt {s s' : S1} (h : Gcx s s') : PT s s' := h.2.2.2.2.2.2.2
theorem GG.gcx {s s' : S1} (h : GG s) (hm : Gm s') (hg : Gcx s s') (hl : Kl s s') : GG s' := ⟨hm, h.2.1.gcx hg, h.2.2.1.gcx hg, h.2.2.2.1.gcx hm hg hl, hg.pt.2 h.2.2.2.2⟩
theorem GG.mk2 {s s' : S1} {x k : Int32} (h : GG s) (hM : Mk2 s s' x k) (hm : Gm s') (hn : Nm s') (h5 : k = 5 → a_second s' x = 0 ∧ a_third s' x = 0) (h6 : k = 6 → 0 ≤ a_first s' x → a_second s' x = f_entryTop s ∧ a_first s' x < f_protos s ∧ a_third s' x = a_upvalues s (a_first s' x)) : GG s' :=
  ⟨hm, hn, h.2.2.1.mk2 h.1.1.1 hM h5 h6, h.2.2.2.1.mk2 hM, (PT.same (fun t => hM.I 3584 (by decide) t) (hM.I 39 (by decide) 0)).2 h.2.2.2.2⟩
/-- what the makers do, told for the whole: s0 is the state behind a collection that may have come -/
def Mdx (s : S1) (k : Int32) (E : S1 → S1 → Int32 → Prop) (v : Int32) (s' : S1) : Prop := GG s' ∧ ((v = -1 ∧ Gcx s s' ∧ Kl s s') ∨ ∃ s0, GG s0 ∧ Gc s s0 ∧ Kl s s0 ∧ Mk2 s0 s' v k ∧ E s0 s' v ∧ Lv false s' v k)
theorem Made.x {s s' : S1} {k v : Int32} {E : S1 → S1 → Int32 → Prop} (h : GG s) (hd : Made s k E v s') (h5 : k = 5 → ∀ s0, E s0 s' v → a_second s' v = 0 ∧ a_third s' v = 0) (h6 : k = 6 → ∀ s0, Gc s s0 → E s0 s' v → 0 ≤ a_first s' v → a_second s' v = f_entryTop s0 ∧ a_first s' v < f_protos s0 ∧ a_third s' v = a_upvalues s0 (a_first s' v)) : Mdx s k E v s' := by
  rcases hd with ⟨e, g1, g2, g3, g4⟩ | ⟨s0, g1, g2, g3, g4, g5, g6, g7, g8, g9⟩
  · exact ⟨h.gcx g1 g2 g3, Or.inl ⟨e, g2, g3⟩⟩
  · have h0 := h.gcx g1 g2.x g3
    exact ⟨h0.mk2 g5 g8 g6 (fun e => h5 e s0 g7) (fun e => h6 e s0 g2 g7), Or.inr ⟨s0, h0, g2, g3, g5, g7, g9⟩⟩
theorem newVariable_x (s : S1) (h : GG s) : ok M_Mo_newVariable s (Mdx s 8 E0) := ok_mono (newVariable_ok s h.1 h.2.1) fun _ _ hd => hd.x h (fun e => absurd e (by decide)) (fun e => absurd e (by decide))
theorem table_x (s : S1) (h : GG s) : ok M_Mo_table s (Mdx s 5 E5) := ok_mono (table_ok s h.1 h.2.1) fun _ _ hd => hd.x h (fun _ _ w => ⟨w.2.2.1, w.2.2.2.1⟩) (fun e => absurd e (by decide))
theorem closure_x (s : S1) (p y n : Int32) (h : GG s) (hn : 0 ≤ n ∧ n ≤ 64) (hl : p < 251) (hp : 0 ≤ p → p < f_protos s ∧ n = a_upvalues s p) (hc : 0 ≤ p → ∀ s0, Gm s0 → Gc s s0 → ∀ k, 0 ≤ k → k < n → Lv false s0 (a_capture s0 k) 8) (hw : p < 0 → ∀ s0, Gm s0 → Gc s s0 → Lv false s0 y 7) :
    ok (M_Mo_closure p y n) s (Mdx s 6 (E6 p n)) := ok_mono (closure_ok s p y n h.1 h.2.1 hn hl hc hw) fun _ _ hd => hd.x h (fun e => absurd e (by decide)) (fun _ s0 hg ⟨w1, w2, w3, w4⟩ w5 => by
  rw [w2] at w5 ⊢
  refine ⟨w4 w5, ?_, ?_⟩
  · show _ < gI s0 23 0
    rw [hg.I 23 (by decide)]
    exact (hp w5).1
  · rw [w3]
    show _ = gA s0 45 0 _
    rw [hg.x.A 45 (by decide)]
    exact (hp w5).2)
theorem string_x (s : S1) (r : Nat) (u a n : Int32) (h : GG s) (hdy : dyF r = false) (hu : 0 ≤ u ∧ u.toNatClampNeg < cnF r) (ha : 0 ≤ a ∧ a ≤ 400000) (hn : 0 ≤ n ∧ n ≤ 400000) (hn6 : n ≤ 266667) (hl : a + n ≤ lnI r) (hl2 : lnI r ≤ 500000)
    (hr : (r ≠ 5 ∧ r ≠ 58 ∧ r ≠ 59 ∧ r ≠ 62 ∧ r ≠ 65 ∧ r ≠ 66 ∧ r ≠ 68 ∧ r ≠ 75) ∧ r ≠ 60 ∧ r ≠ 61) : ok (M_Mo_string r u a n) s (fun v s' => Mdx s 4 E0 v s' ∨ (s' = s ∧ Lv false s v 4)) :=
  ok_mono (string_ok s r u a n h.1 h.2.1 hdy hu ha hn hn6 hl hl2 hr) fun _ _ hd => hd.imp (fun w => w.x h (fun e => absurd e (by decide)) (fun e => absurd e (by decide))) id
/-- a fixed string -/
def FL (s : S1) (x : Int32) : Prop := Lv false s x 4 ∧ a_fixed s x ≠ 0
theorem FL.gcx {s s' : S1} {x : Int32} (h : FL s x) (hg : Gcx s s') : FL s' x := by
  refine ⟨hg.2.2.2.2.2.2.1 x 4 h.1 (by decide) h.2, ?_⟩
  show gA s' 60 0 x ≠ 0
  rw [hg.A 60 (by decide)]
  exact h.2
theorem FL.mk2 {s s' : S1} {x y k : Int32} (h : FL s x) (hg : Mk2 s s' y k) : FL s' x := by
  refine ⟨h.1.mk2 hg (by decide), ?_⟩
  rw [(hg.P (hg.ne h.1 (by decide))).2.2.2.2.2.2.2]
  exact h.2
theorem Mdx.fl {s s' : S1} {k v x : Int32} {E : S1 → S1 → Int32 → Prop} (h : Mdx s k E v s') (hx : FL s x) : FL s' x := by
  rcases h.2 with ⟨_, w, _⟩ | ⟨s0, _, w, _, w2, _⟩
  · exact hx.gcx w
  · exact (hx.gcx w.x).mk2 w2
