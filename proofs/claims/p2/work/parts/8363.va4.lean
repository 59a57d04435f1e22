/-! A variable is written, open or closed. -/
theorem store_ok (s : S1) (x k : Int32) (v : Int64) (h : Gm s) (hx : Lv false s x 8) (hv : Vl false s k v) : ok (M_Mo_store x k v) s (fun _ s' => Gm s' ∧ (Ss s s' ∨ q_Sv s s')) := by
  have hu := h.1.2.2.2.2.2.2
  have hx1 : 0 ≤ x ∧ x < 4100 := ⟨hx.1, Int32.lt_trans (Int32.lt_of_lt_of_le hx.2.1 hu.2) (by decide)⟩
  have b := (h.1.1.2.2 x hx.1 hx.2.1).1.2.2.2 hx.2.2.1
  simp only [M_Mo_store, ok_B, ok_C, ok_R, ok_L, ok_K, ok_GI, ok_GL, ok_PI, ok_PL, ok_AI, ok_AL, ok_SI, ok_SL, ok_Pr, ok_CI, cmp_lt, cmp_le, cmp_gt, cmp_ge, cmp_eq, nar0, nar1, Sum.elim_inl, Sum.elim_inr]
  refine ⟨hx1, fun c => ⟨hx1, ⟨c, b.1⟩, hx1, ?_⟩, fun c => ?_⟩
  · refine ok_mono (setS_ok s _ _ k v ⟨(b.2 c).1, Int32.lt_trans (b.2 c).2 (by decide)⟩ hv) fun _ s' ⟨_, hs⟩ => ⟨h.ss hs, Or.inl hs⟩
  · exact ok_mono (setV_ok s x k v hx1 hv) fun _ s' ⟨_, hs⟩ => ⟨h.sv hs, Or.inr hs⟩
