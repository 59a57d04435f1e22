theorem kl_0 : Cond.static y_law_feed ∈ wA := kinm (show _ ∈ tables_1 from (List.mem_append_right _ (List.mem_append_left _ (List.mem_of_getElem? (l := tables_1_2) (i := 237) (by decide +kernel))))) (by decide +kernel)
theorem kl_1 : Cond.initialized R_law ∈ wA := kinm (show _ ∈ tables_1 from (List.mem_append_left _ (List.mem_of_getElem? (l := tables_1_1) (i := 0) (by decide +kernel)))) (by decide +kernel)
theorem kl_2 : Cond.methodLink R_law 59 y_law_feed ∈ wA := kinm (show _ ∈ tables_1 from (List.mem_append_right _ (List.mem_append_left _ (List.mem_of_getElem? (l := tables_1_2) (i := 236) (by decide +kernel))))) (by decide +kernel)
theorem kl_3 : Cond.methodLink R_law 64 y_Mo_feed ∈ wA := kinm (show _ ∈ tables_1 from (List.mem_append_right _ (List.mem_append_right _ (List.mem_append_right _ (List.mem_append_right _ (List.mem_append_right _ (List.mem_append_right _ (List.mem_append_right _ (List.mem_append_right _ (List.mem_append_right _ (List.mem_append_right _ (List.mem_append_left _ (List.mem_of_getElem? (l := tables_1_11) (i := 121) (by decide +kernel)))))))))))))) (by decide +kernel)
theorem kl_4 : Cond.methodLink R_law 65 y_Mo_thrown ∈ wA := kinm (show _ ∈ tables_1 from (List.mem_append_right _ (List.mem_append_right _ (List.mem_append_right _ (List.mem_append_right _ (List.mem_append_right _ (List.mem_append_right _ (List.mem_append_right _ (List.mem_append_right _ (List.mem_append_right _ (List.mem_append_right _ (List.mem_append_left _ (List.mem_of_getElem? (l := tables_1_11) (i := 117) (by decide +kernel)))))))))))))) (by decide +kernel)
theorem kl_5 : Cond.static y_law_end ∈ wA := kinm (show _ ∈ tables_1 from (List.mem_append_right _ (List.mem_append_right _ (List.mem_append_left _ (List.mem_of_getElem? (l := tables_1_3) (i := 76) (by decide +kernel)))))) (by decide +kernel)
theorem kl_6 : Cond.methodLink R_law 68 y_law_end ∈ wA := kinm (show _ ∈ tables_1 from (List.mem_append_right _ (List.mem_append_right _ (List.mem_append_left _ (List.mem_of_getElem? (l := tables_1_3) (i := 75) (by decide +kernel)))))) (by decide +kernel)
theorem kl_7 : Cond.methodLink R_law 71 y_Mo_end ∈ wA := kinm (show _ ∈ tables_1 from (List.mem_append_right _ (List.mem_append_right _ (List.mem_append_right _ (List.mem_append_right _ (List.mem_append_right _ (List.mem_append_right _ (List.mem_append_right _ (List.mem_append_right _ (List.mem_append_right _ (List.mem_append_right _ (List.mem_append_left _ (List.mem_of_getElem? (l := tables_1_11) (i := 130) (by decide +kernel)))))))))))))) (by decide +kernel)
theorem kl_8 : Cond.static y_law_load ∈ wA := kinm (show _ ∈ tables_1 from (List.mem_append_right _ (List.mem_append_right _ (List.mem_append_left _ (List.mem_of_getElem? (l := tables_1_3) (i := 99) (by decide +kernel)))))) (by decide +kernel)
theorem kl_9 : Cond.methodLink R_law 72 y_law_load ∈ wA := kinm (show _ ∈ tables_1 from (List.mem_append_right _ (List.mem_append_right _ (List.mem_append_left _ (List.mem_of_getElem? (l := tables_1_3) (i := 98) (by decide +kernel)))))) (by decide +kernel)
theorem kl_10 : Cond.methodLink R_law 75 y_Mo_load_ ∈ wA := kinm (show _ ∈ tables_1 from (List.mem_append_right _ (List.mem_append_right _ (List.mem_append_right _ (List.mem_append_right _ (List.mem_append_right _ (List.mem_append_right _ (List.mem_append_right _ (List.mem_append_right _ (List.mem_append_right _ (List.mem_append_right _ (List.mem_append_left _ (List.mem_of_getElem? (l := tables_1_11) (i := 134) (by decide +kernel)))))))))))))) (by decide +kernel)
theorem kl_11 : Cond.static y_law_fault ∈ wA := kinm (show _ ∈ tables_1 from (List.mem_append_right _ (List.mem_append_right _ (List.mem_append_right _ (List.mem_append_right _ (List.mem_append_right _ (List.mem_append_left _ (List.mem_of_getElem? (l := tables_1_6) (i := 238) (by decide +kernel))))))))) (by decide +kernel)
theorem kl_12 : Cond.methodLink R_law 76 y_law_fault ∈ wA := kinm (show _ ∈ tables_1 from (List.mem_append_right _ (List.mem_append_right _ (List.mem_append_right _ (List.mem_append_right _ (List.mem_append_right _ (List.mem_append_left _ (List.mem_of_getElem? (l := tables_1_6) (i := 237) (by decide +kernel))))))))) (by decide +kernel)
theorem kl_13 : Cond.methodLink R_law 78 y_Mo_fault ∈ wA := kinm (show _ ∈ tables_1 from (List.mem_append_right _ (List.mem_append_right _ (List.mem_append_right _ (List.mem_append_right _ (List.mem_append_right _ (List.mem_append_right _ (List.mem_append_right _ (List.mem_append_right _ (List.mem_append_right _ (List.mem_append_right _ (List.mem_append_right _ (List.mem_append_left _ (List.mem_of_getElem? (l := tables_1_12) (i := 146) (by decide +kernel))))))))))))))) (by decide +kernel)
theorem kl_14 : Cond.static y_law_limit ∈ wA := kinm (show _ ∈ tables_1 from (List.mem_append_right _ (List.mem_append_right _ (List.mem_append_right _ (List.mem_append_right _ (List.mem_append_right _ (List.mem_append_right _ (List.mem_append_left _ (List.mem_of_getElem? (l := tables_1_7) (i := 5) (by decide +kernel)))))))))) (by decide +kernel)
theorem kl_15 : Cond.methodLink R_law 79 y_law_limit ∈ wA := kinm (show _ ∈ tables_1 from (List.mem_append_right _ (List.mem_append_right _ (List.mem_append_right _ (List.mem_append_right _ (List.mem_append_right _ (List.mem_append_right _ (List.mem_append_left _ (List.mem_of_getElem? (l := tables_1_7) (i := 4) (by decide +kernel)))))))))) (by decide +kernel)
theorem kl_16 : Cond.methodLink R_law 81 y_Mo_limit ∈ wA := kinm (show _ ∈ tables_1 from (List.mem_append_right _ (List.mem_append_right _ (List.mem_append_right _ (List.mem_append_right _ (List.mem_append_right _ (List.mem_append_right _ (List.mem_append_right _ (List.mem_append_right _ (List.mem_append_right _ (List.mem_append_right _ (List.mem_append_right _ (List.mem_append_left _ (List.mem_of_getElem? (l := tables_1_12) (i := 150) (by decide +kernel))))))))))))))) (by decide +kernel)
theorem kl_17 : Cond.static y_law_run ∈ wA := kinm (show _ ∈ tables_1 from (List.mem_append_right _ (List.mem_append_right _ (List.mem_append_right _ (List.mem_append_right _ (List.mem_append_right _ (List.mem_append_right _ (List.mem_append_left _ (List.mem_of_getElem? (l := tables_1_7) (i := 12) (by decide +kernel)))))))))) (by decide +kernel)
theorem kl_18 : Cond.methodLink R_law 82 y_law_run ∈ wA := kinm (show _ ∈ tables_1 from (List.mem_append_right _ (List.mem_append_right _ (List.mem_append_right _ (List.mem_append_right _ (List.mem_append_right _ (List.mem_append_right _ (List.mem_append_left _ (List.mem_of_getElem? (l := tables_1_7) (i := 11) (by decide +kernel)))))))))) (by decide +kernel)
theorem kl_19 : Cond.methodLink R_law 84 y_Mo_run ∈ wA := kinm (show _ ∈ tables_1 from (List.mem_append_right _ (List.mem_append_right _ (List.mem_append_right _ (List.mem_append_right _ (List.mem_append_right _ (List.mem_append_right _ (List.mem_append_right _ (List.mem_append_right _ (List.mem_append_right _ (List.mem_append_right _ (List.mem_append_right _ (List.mem_append_left _ (List.mem_of_getElem? (l := tables_1_12) (i := 154) (by decide +kernel))))))))))))))) (by decide +kernel)
theorem kl_20 : Cond.static y_law_collect ∈ wA := kinm (show _ ∈ tables_1 from (List.mem_append_right _ (List.mem_append_right _ (List.mem_append_right _ (List.mem_append_right _ (List.mem_append_right _ (List.mem_append_right _ (List.mem_append_right _ (List.mem_append_right _ (List.mem_append_left _ (List.mem_of_getElem? (l := tables_1_9) (i := 53) (by decide +kernel)))))))))))) (by decide +kernel)
theorem kl_21 : Cond.methodLink R_law 85 y_law_collect ∈ wA := kinm (show _ ∈ tables_1 from (List.mem_append_right _ (List.mem_append_right _ (List.mem_append_right _ (List.mem_append_right _ (List.mem_append_right _ (List.mem_append_right _ (List.mem_append_right _ (List.mem_append_right _ (List.mem_append_left _ (List.mem_of_getElem? (l := tables_1_9) (i := 52) (by decide +kernel)))))))))))) (by decide +kernel)
theorem kl_22 : Cond.methodLink R_law 87 y_Mo_collect ∈ wA := kinm (show _ ∈ tables_1 from (List.mem_append_right _ (List.mem_append_right _ (List.mem_append_right _ (List.mem_append_right _ (List.mem_append_right _ (List.mem_append_right _ (List.mem_append_right _ (List.mem_append_right _ (List.mem_append_right _ (List.mem_append_right _ (List.mem_append_right _ (List.mem_append_right _ (List.mem_append_right _ (List.mem_of_getElem? (l := tables_1_14) (i := 0) (by decide +kernel)))))))))))))))) (by decide +kernel)
theorem kl_23 : Cond.static y_law_kind ∈ wA := kinm (show _ ∈ tables_1 from (List.mem_append_right _ (List.mem_append_right _ (List.mem_append_right _ (List.mem_append_right _ (List.mem_append_right _ (List.mem_append_right _ (List.mem_append_right _ (List.mem_append_right _ (List.mem_append_left _ (List.mem_of_getElem? (l := tables_1_9) (i := 61) (by decide +kernel)))))))))))) (by decide +kernel)
theorem kl_24 : Cond.methodLink R_law 88 y_law_kind ∈ wA := kinm (show _ ∈ tables_1 from (List.mem_append_right _ (List.mem_append_right _ (List.mem_append_right _ (List.mem_append_right _ (List.mem_append_right _ (List.mem_append_right _ (List.mem_append_right _ (List.mem_append_right _ (List.mem_append_left _ (List.mem_of_getElem? (l := tables_1_9) (i := 60) (by decide +kernel)))))))))))) (by decide +kernel)
theorem kl_25 : Cond.methodLink R_law 90 y_Mo_kind ∈ wA := kinm (show _ ∈ tables_1 from (List.mem_append_right _ (List.mem_append_right _ (List.mem_append_right _ (List.mem_append_right _ (List.mem_append_right _ (List.mem_append_right _ (List.mem_append_right _ (List.mem_append_right _ (List.mem_append_right _ (List.mem_append_right _ (List.mem_append_right _ (List.mem_append_right _ (List.mem_append_right _ (List.mem_of_getElem? (l := tables_1_14) (i := 4) (by decide +kernel)))))))))))))))) (by decide +kernel)
theorem kl_26 : Cond.static y_law_value ∈ wA := kinm (show _ ∈ tables_1 from (List.mem_append_right _ (List.mem_append_right _ (List.mem_append_right _ (List.mem_append_right _ (List.mem_append_right _ (List.mem_append_right _ (List.mem_append_right _ (List.mem_append_right _ (List.mem_append_left _ (List.mem_of_getElem? (l := tables_1_9) (i := 88) (by decide +kernel)))))))))))) (by decide +kernel)
theorem kl_27 : Cond.methodLink R_law 91 y_law_value ∈ wA := kinm (show _ ∈ tables_1 from (List.mem_append_right _ (List.mem_append_right _ (List.mem_append_right _ (List.mem_append_right _ (List.mem_append_right _ (List.mem_append_right _ (List.mem_append_right _ (List.mem_append_right _ (List.mem_append_left _ (List.mem_of_getElem? (l := tables_1_9) (i := 87) (by decide +kernel)))))))))))) (by decide +kernel)
theorem kl_28 : Cond.methodLink R_law 93 y_Mo_value ∈ wA := kinm (show _ ∈ tables_1 from (List.mem_append_right _ (List.mem_append_right _ (List.mem_append_right _ (List.mem_append_right _ (List.mem_append_right _ (List.mem_append_right _ (List.mem_append_right _ (List.mem_append_right _ (List.mem_append_right _ (List.mem_append_right _ (List.mem_append_right _ (List.mem_append_right _ (List.mem_append_right _ (List.mem_of_getElem? (l := tables_1_14) (i := 12) (by decide +kernel)))))))))))))))) (by decide +kernel)
theorem kl_29 : Cond.static y_law_byteOf ∈ wA := kinm (show _ ∈ tables_1 from (List.mem_append_right _ (List.mem_append_right _ (List.mem_append_right _ (List.mem_append_right _ (List.mem_append_right _ (List.mem_append_right _ (List.mem_append_right _ (List.mem_append_right _ (List.mem_append_left _ (List.mem_of_getElem? (l := tables_1_9) (i := 96) (by decide +kernel)))))))))))) (by decide +kernel)
theorem kl_30 : Cond.methodLink R_law 94 y_law_byteOf ∈ wA := kinm (show _ ∈ tables_1 from (List.mem_append_right _ (List.mem_append_right _ (List.mem_append_right _ (List.mem_append_right _ (List.mem_append_right _ (List.mem_append_right _ (List.mem_append_right _ (List.mem_append_right _ (List.mem_append_left _ (List.mem_of_getElem? (l := tables_1_9) (i := 95) (by decide +kernel)))))))))))) (by decide +kernel)
theorem kl_31 : Cond.methodLink R_law 97 y_Mo_byteOf_ ∈ wA := kinm (show _ ∈ tables_1 from (List.mem_append_right _ (List.mem_append_right _ (List.mem_append_right _ (List.mem_append_right _ (List.mem_append_right _ (List.mem_append_right _ (List.mem_append_right _ (List.mem_append_right _ (List.mem_append_right _ (List.mem_append_right _ (List.mem_append_right _ (List.mem_append_right _ (List.mem_append_right _ (List.mem_of_getElem? (l := tables_1_14) (i := 16) (by decide +kernel)))))))))))))))) (by decide +kernel)
theorem kl_32 : Cond.static y_law_output ∈ wA := kinm (show _ ∈ tables_1 from (List.mem_append_right _ (List.mem_append_right _ (List.mem_append_right _ (List.mem_append_right _ (List.mem_append_right _ (List.mem_append_right _ (List.mem_append_right _ (List.mem_append_right _ (List.mem_append_left _ (List.mem_of_getElem? (l := tables_1_9) (i := 103) (by decide +kernel)))))))))))) (by decide +kernel)
theorem kl_33 : Cond.methodLink R_law 98 y_law_output ∈ wA := kinm (show _ ∈ tables_1 from (List.mem_append_right _ (List.mem_append_right _ (List.mem_append_right _ (List.mem_append_right _ (List.mem_append_right _ (List.mem_append_right _ (List.mem_append_right _ (List.mem_append_right _ (List.mem_append_left _ (List.mem_of_getElem? (l := tables_1_9) (i := 102) (by decide +kernel)))))))))))) (by decide +kernel)
theorem kl_34 : Cond.methodLink R_law 100 y_Mo_output ∈ wA := kinm (show _ ∈ tables_1 from (List.mem_append_right _ (List.mem_append_right _ (List.mem_append_right _ (List.mem_append_right _ (List.mem_append_right _ (List.mem_append_right _ (List.mem_append_right _ (List.mem_append_right _ (List.mem_append_right _ (List.mem_append_right _ (List.mem_append_right _ (List.mem_append_right _ (List.mem_append_right _ (List.mem_of_getElem? (l := tables_1_14) (i := 20) (by decide +kernel)))))))))))))))) (by decide +kernel)
theorem kl_35 : Cond.methodLink R_law 101 y_LM_count ∈ wA := kinm (show _ ∈ tables_1 from (List.mem_append_right _ (List.mem_append_left _ (List.mem_of_getElem? (l := tables_1_2) (i := 232) (by decide +kernel))))) (by decide +kernel)
theorem kl_36 : Cond.methodLink R_law 104 y_Mo_count ∈ wA := kinm (show _ ∈ tables_1 from (List.mem_append_right _ (List.mem_append_right _ (List.mem_append_right _ (List.mem_append_right _ (List.mem_append_right _ (List.mem_append_right _ (List.mem_append_right _ (List.mem_append_right _ (List.mem_append_right _ (List.mem_append_right _ (List.mem_append_right _ (List.mem_append_right _ (List.mem_append_right _ (List.mem_of_getElem? (l := tables_1_14) (i := 24) (by decide +kernel)))))))))))))))) (by decide +kernel)
theorem gx_lc (a : Int64) : lg_cmp a a = 0 := by
  unfold lg_cmp
  rw [if_neg (by simp), if_pos rfl]
/-- what the law's row and the wrapper's answer say of the compared answer -/
def lmO (cw : Int32 → Int32) (s : S1) (r : Int32 ⊕ Int32) (kv : Int32) : Prop := match r with
  | .inl k => kv = cw k
  | .inr v => kv = 0 ∧ gB s 155 0 0 = v.toInt64
theorem lm_end {cw : Int32 → Int32} {K : Int32} (hK : cw K = 1) {s w : S1} {r : Int32 ⊕ Int32} {kv v : Int32} (h : lmO cw s r kv) (hg : gB w 155 0 0 = gB s 155 0 0) (hor : (r = .inr v ∧ gI w 2 0 = 0) ∨ (r = .inl K ∧ v = 0 ∧ gI w 2 0 = 1)) : gI w 2 0 = kv ∧ (kv = 0 → gB w 155 0 0 = v.toInt64) := by
  rcases hor with ⟨rfl, e⟩ | ⟨rfl, -, e⟩
  · have h : kv = 0 ∧ gB s 155 0 0 = v.toInt64 := h
    exact ⟨by rw [e, h.1], fun _ => by rw [hg, h.2]⟩
  · have h : kv = cw K := h
    rw [hK] at h
    exact ⟨by rw [e, h], fun z => by rw [h] at z; exact absurd z (by decide)⟩
section LQ
variable {X : Cx} {q : PL} {s : S1} {cc : ByteArray} {pc : Nat} {ls : Array Slot} {rest : List Value}
theorem wq_icmp_eq (g : Gx X cc) {x y : Int32} {off : Int} {tgt : Nat} (hdg : decode cc pc = .ok (.if_icmp .eq off, 3)) (ht : (pc : Int) + off = (tgt : Int)) (kt : x = y → WW X q s tgt ls rest) (kf : ¬ x = y → WW X q s (pc + 3) ls rest) : WW X q s pc ls (.int y :: .int x :: rest) := fun H locs u1 u2 => lv_icmp_eq g.1 g.2 hdg ht (fun a => kt a H locs u1 u2) (fun a => kf a H locs u1 u2)
theorem wq_if_ne (g : Gx X cc) {x : Int32} {off : Int} {tgt : Nat} (hdg : decode cc pc = .ok (.ifCond .ne off, 3)) (ht : (pc : Int) + off = (tgt : Int)) (kt : ¬ x = 0 → WW X q s tgt ls rest) (kf : x = 0 → WW X q s (pc + 3) ls rest) : WW X q s pc ls (.int x :: rest) := fun H locs u1 u2 => lv_if_ne g.1 g.2 hdg ht (fun a => kt a H locs u1 u2) (fun a => kf a H locs u1 u2)
theorem wq_if_eq (g : Gx X cc) {x : Int32} {off : Int} {tgt : Nat} (hdg : decode cc pc = .ok (.ifCond .eq off, 3)) (ht : (pc : Int) + off = (tgt : Int)) (kt : x = 0 → WW X q s tgt ls rest) (kf : ¬ x = 0 → WW X q s (pc + 3) ls rest) : WW X q s pc ls (.int x :: rest) := fun H locs u1 u2 => lv_if_eq g.1 g.2 hdg ht (fun a => kt a H locs u1 u2) (fun a => kf a H locs u1 u2)
theorem wq_icmp_gt (g : Gx X cc) {x y : Int32} {off : Int} {tgt : Nat} (hdg : decode cc pc = .ok (.if_icmp .gt off, 3)) (ht : (pc : Int) + off = (tgt : Int)) (kt : y < x → WW X q s tgt ls rest) (kf : ¬ y < x → WW X q s (pc + 3) ls rest) : WW X q s pc ls (.int y :: .int x :: rest) := fun H locs u1 u2 => lv_icmp_gt g.1 g.2 hdg ht (fun a => kt a H locs u1 u2) (fun a => kf a H locs u1 u2)
end LQ
theorem rk_feed {X : Cx} {b L : Nat} {f : Nat → Int32} (A : LA X b L f) {k : Nat} (hk : k < 512) (hI : LI X b k) (hj : 3072 - 6 * (k + 1) + 6 ≤ L) {q : PL} {s : S1} {n m : Nat × Nat} {ls : Array Slot} (r : Int32 ⊕ Int32) {kv : Int32} (hkv : lmO cw_feed s r kv) (hJ : ok (M_Mo_feed m (f (3072 - 6 * (k + 1) + 1)) (f (3072 - 6 * (k + 1) + 2)) (f (3072 - 6 * (k + 1) + 3)) (f (3072 - 6 * (k + 1) + 4)) (f (3072 - 6 * (k + 1) + 5))) s (fun v w => Jt w n v.2 (k, 5 * k) ∧ gB w 155 0 0 = gB s 155 0 0 ∧ ((r = .inr v.1 ∧ gI w 2 0 = 0) ∨ (r = .inl 1 ∧ v.1 = 0 ∧ gI w 2 0 = 1)))) (hr : Lr X q n m k) (hl : lv_has ls 8 [(5, .int kv), (4, .int (Int32.ofNat (3072 - 6 * (k + 1)))), (3, .ref (q.1 155 0)), (2, .ref (q.1 0 0)), (1, .ref (q.1 100 0)), (0, .ref b)]) : WW X q s 141 ls [] := by
  obtain ⟨r1, r2⟩ := hr
  have g := A.1
  refine ww_aload_n (pc := 141) g.1 d_law_law_141 rfl (lv_at hl 3 rfl) ?_
  refine wl_arg A hl (j := 3072 - 6 * (k + 1)) 5 1 rfl rfl (c := 1) (by decide) (by omega) d_law_law_142 d_law_law_143 d_law_law_145 d_law_law_146 d_law_law_147 ?_
  refine wl_arg A hl (j := 3072 - 6 * (k + 1)) 5 1 rfl rfl (c := 2) (by decide) (by omega) d_law_law_148 d_law_law_149 d_law_law_151 d_law_law_152 d_law_law_153 ?_
  refine wl_arg A hl (j := 3072 - 6 * (k + 1)) 5 1 rfl rfl (c := 3) (by decide) (by omega) d_law_law_154 d_law_law_155 d_law_law_157 d_law_law_158 d_law_law_159 ?_
  refine wl_arg A hl (j := 3072 - 6 * (k + 1)) 5 1 rfl rfl (c := 4) (by decide) (by omega) d_law_law_160 d_law_law_161 d_law_law_163 d_law_law_164 d_law_law_165 ?_
  refine wl_arg A hl (j := 3072 - 6 * (k + 1)) 5 1 rfl rfl (c := 5) (by decide) (by omega) d_law_law_166 d_law_law_167 d_law_law_169 d_law_law_170 d_law_law_171 ?_
  refine ww_lo fun dlo => ?_
  obtain ⟨⟨v, m1⟩, s1, hv, hJ1, hgb, hor⟩ := ok_out hJ
  have hJ1 : Jt s1 n m1 (k, 5 * k) := hJ1
  have hor : (r = .inr v ∧ gI s1 2 0 = 0) ∨ (r = .inl 1 ∧ v = 0 ∧ gI s1 2 0 = 1) := hor
  refine wl_ref (pc := 172) (n0 := m) (n1 := m1) (rest := []) (As := [.int (f (3072 - 6 * (k + 1) + 1)), .int (f (3072 - 6 * (k + 1) + 2)), .int (f (3072 - 6 * (k + 1) + 3)), .int (f (3072 - 6 * (k + 1) + 4)), .int (f (3072 - 6 * (k + 1) + 5))]) A (n.1 + k, n.2 + 6 * k) cv_Mo_feed kl_3 cl_Mo (pz rfl (by decide)) (fun hm => ct_Mo_feed hm hv) ⟨by dsimp only; omega, by dsimp only; omega⟩ ⟨by decide, by decide⟩ rfl hl.1 (Nat.le_of_ble_eq_true rfl) d_law_law_172 rfl (fun q1 hE hr1 => ?_)
  obtain ⟨r1, r2⟩ := hr1
  have e155 : q1.1 155 0 = q.1 155 0 := hE _ _ (by decide) (dlo _ _ (pz rfl (by decide)))
  have e0 : q1.1 0 0 = q.1 0 0 := hE _ _ (by decide) (dlo _ _ (pz rfl (by decide)))
  have e100 : q1.1 100 0 = q.1 100 0 := hE _ _ (by decide) (dlo _ _ (pz rfl (by decide)))
  have hl : lv_has ls 8 [(5, .int kv), (4, .int (Int32.ofNat (3072 - 6 * (k + 1)))), (3, .ref (q1.1 155 0)), (2, .ref (q1.1 0 0)), (1, .ref (q1.1 100 0)), (0, .ref b)] := by rw [e155, e0, e100]; exact hl
  refine ww_st (st' := [.int v]) rfl ?_
  refine ww_istore (pc := 175) (i := 6) g.1 (lv' := [(6, .int v), (5, .int kv), (4, .int (Int32.ofNat (3072 - 6 * (k + 1)))), (3, .ref (q1.1 155 0)), (2, .ref (q1.1 0 0)), (1, .ref (q1.1 100 0)), (0, .ref b)]) d_law_law_175 hl (by decide) rfl fun ls hl => ?_
  refine ww_aload_n (pc := 177) g.1 d_law_law_177 rfl (lv_at hl 4 rfl) ?_
  refine ww_lo fun dlo1 => ?_
  have ht : M_Mo_thrown s1 = some (gI s1 2 0, s1) := rfl
  refine wl_ref (pc := 178) (n0 := m1) (n1 := m1) (rest := []) (As := []) A (n.1 + k, n.2 + 6 * k) cv_Mo_thrown kl_4 cl_Mo (pz rfl (by decide)) (fun hm => ct_ctX (ct_Mo_thrown ht) hm) ⟨by dsimp only at r1 ⊢; omega, by dsimp only at r2 ⊢; omega⟩ ⟨by decide, by decide⟩ rfl hl.1 (Nat.le_of_ble_eq_true rfl) d_law_law_178 rfl (fun q2 hE2 hr2 => ?_)
  obtain ⟨r1, r2⟩ := hr2
  have e155 : q2.1 155 0 = q1.1 155 0 := hE2 _ _ (by decide) (dlo1 _ _ (pz rfl (by decide)))
  have e0 : q2.1 0 0 = q1.1 0 0 := hE2 _ _ (by decide) (dlo1 _ _ (pz rfl (by decide)))
  have e100 : q2.1 100 0 = q1.1 100 0 := hE2 _ _ (by decide) (dlo1 _ _ (pz rfl (by decide)))
  have hl : lv_has ls 8 [(6, .int v), (5, .int kv), (4, .int (Int32.ofNat (3072 - 6 * (k + 1)))), (3, .ref (q2.1 155 0)), (2, .ref (q2.1 0 0)), (1, .ref (q2.1 100 0)), (0, .ref b)] := by rw [e155, e0, e100]; exact hl
  refine ww_st (st' := [.int (gI s1 2 0)]) rfl ?_
  obtain ⟨hth, hout⟩ : gI s1 2 0 = kv ∧ (kv = 0 → gB s1 155 0 0 = v.toInt64) := lm_end (cw := cw_feed) (K := 1) (by decide) hkv hgb hor
  refine ww_iload (pc := 181) g.1 d_law_law_181 (lv_at hl 1 rfl) ?_
  refine wq_icmp_eq (pc := 183) (tgt := 188) g.1 d_law_law_183 (by decide) (fun _ => ?_) (fun c => absurd hth c)
  have fin : ∀ ls, lv_has ls 8 [(6, .int v), (5, .int kv), (4, .int (Int32.ofNat (3072 - 6 * (k + 1)))), (3, .ref (q2.1 155 0)), (2, .ref (q2.1 0 0)), (1, .ref (q2.1 100 0)), (0, .ref b)] → WW X q2 s1 205 ls [] := fun ls hl => by
    refine ww_goto (pc := 205) (tgt := 501) g.1 d_law_law_205 (by decide) ?_
    exact wl_tail A hk hI hJ1 ⟨by dsimp only at r1; omega, by dsimp only at r2; omega⟩ (lv_sub hl [2, 3, 4, 5, 6] rfl)
  refine ww_iload (pc := 188) g.1 d_law_law_188 (lv_at hl 1 rfl) ?_
  refine wq_if_ne (pc := 190) (tgt := 205) g.1 d_law_law_190 (by decide) (fun _ => fin _ hl) (fun c => ?_)
  have k0 : kv = 0 := c
  refine ww_aload_n (pc := 193) g.1 d_law_law_193 rfl (lv_at hl 3 rfl) ?_
  refine ww_iconst (pc := 194) g.1 (v := 0) d_law_law_194 (by decide) ?_
  refine wt_al (pc := 195) g (pz rfl (by decide)) rfl ⟨by decide, Nat.lt_of_lt_of_eq (by decide : (0 : Int32).toNatClampNeg < 1) rfl⟩ d_law_law_195 ?_
  refine ww_iload (pc := 196) g.1 d_law_law_196 (lv_at hl 0 rfl) ?_
  refine ww_i2l (pc := 198) g.1 (v := v.toInt64) d_law_law_198 rfl ?_
  refine ww_lcmp (pc := 199) g.1 d_law_law_199 ?_
  rw [hout k0, gx_lc]
  exact wq_if_eq (pc := 200) (tgt := 205) g.1 d_law_law_200 (by decide) (fun _ => fin _ hl) (fun c => absurd rfl c)
theorem rk_end {X : Cx} {b L : Nat} {f : Nat → Int32} (A : LA X b L f) {k : Nat} (hk : k < 512) (hI : LI X b k) (hj : 3072 - 6 * (k + 1) + 6 ≤ L) {q : PL} {s : S1} {n m : Nat × Nat} {ls : Array Slot} (r : Int32 ⊕ Int32) {kv : Int32} (hJ : ok (M_Mo_end (f (3072 - 6 * (k + 1) + 1))) s (fun v w => Jt w n m (k + 1, 5 * k + 5) ∧ gB w 155 0 0 = gB s 155 0 0 ∧ ((r = .inr v ∧ gI w 2 0 = 0) ∨ (r = .inl 2 ∧ v = 0 ∧ gI w 2 0 = 1)))) (hr : Lr X q n m k) (hl : lv_has ls 8 [(5, .int kv), (4, .int (Int32.ofNat (3072 - 6 * (k + 1)))), (3, .ref (q.1 155 0)), (2, .ref (q.1 0 0)), (1, .ref (q.1 100 0)), (0, .ref b)]) : WW X q s 221 ls [] := by
  obtain ⟨r1, r2⟩ := hr
  have g := A.1
  refine ww_aload_n (pc := 221) g.1 d_law_law_221 rfl (lv_at hl 3 rfl) ?_
  refine wl_arg A hl (j := 3072 - 6 * (k + 1)) 5 1 rfl rfl (c := 1) (by decide) (by omega) d_law_law_222 d_law_law_223 d_law_law_225 d_law_law_226 d_law_law_227 ?_
  refine ww_lo fun dlo => ?_
  obtain ⟨v, s1, hv, hJ1, hgb, hor⟩ := ok_out hJ
  refine wl_ref (pc := 228) (n0 := m) (n1 := m) (rest := []) (As := [.int (f (3072 - 6 * (k + 1) + 1))]) A (n.1 + k, n.2 + 6 * k) cv_Mo_end kl_7 cl_Mo (pz rfl (by decide)) (fun hm => ct_ctX (ct_Mo_end hv) hm) ⟨by dsimp only; omega, by dsimp only; omega⟩ ⟨by decide, by decide⟩ rfl hl.1 (Nat.le_of_ble_eq_true rfl) d_law_law_228 rfl (fun q1 hE hr1 => ?_)
  obtain ⟨r1, r2⟩ := hr1
  have e155 : q1.1 155 0 = q.1 155 0 := hE _ _ (by decide) (dlo _ _ (pz rfl (by decide)))
  have e0 : q1.1 0 0 = q.1 0 0 := hE _ _ (by decide) (dlo _ _ (pz rfl (by decide)))
  have e100 : q1.1 100 0 = q.1 100 0 := hE _ _ (by decide) (dlo _ _ (pz rfl (by decide)))
  have hl : lv_has ls 8 [(5, .int kv), (4, .int (Int32.ofNat (3072 - 6 * (k + 1)))), (3, .ref (q1.1 155 0)), (2, .ref (q1.1 0 0)), (1, .ref (q1.1 100 0)), (0, .ref b)] := by rw [e155, e0, e100]; exact hl
  refine ww_st (st' := [.int v]) rfl ?_
  refine ww_istore (pc := 231) (i := 6) g.1 (lv' := [(6, .int v), (5, .int kv), (4, .int (Int32.ofNat (3072 - 6 * (k + 1)))), (3, .ref (q1.1 155 0)), (2, .ref (q1.1 0 0)), (1, .ref (q1.1 100 0)), (0, .ref b)]) d_law_law_231 hl (by decide) rfl fun ls hl => ?_
  refine ww_goto (pc := 233) (tgt := 501) g.1 d_law_law_233 (by decide) ?_
  exact wl_tail A hk hI (jt_e hJ1) ⟨by dsimp only at r1; omega, by dsimp only at r2; omega⟩ (lv_sub hl [2, 3, 4, 5, 6] rfl)
theorem rk_load {X : Cx} {b L : Nat} {f : Nat → Int32} (A : LA X b L f) {k : Nat} (hk : k < 512) (hI : LI X b k) (hj : 3072 - 6 * (k + 1) + 6 ≤ L) {q : PL} {s : S1} {n m : Nat × Nat} {ls : Array Slot} {kv : Int32} (hJ : ok (M_Mo_load_ m) s (fun v w => Jt w n v.2 (k + 1, 5 * k + 5) ∧ gB w 155 0 0 = gB s 155 0 0)) (hr : Lr X q n m k) (hl : lv_has ls 8 [(5, .int kv), (4, .int (Int32.ofNat (3072 - 6 * (k + 1)))), (3, .ref (q.1 155 0)), (2, .ref (q.1 0 0)), (1, .ref (q.1 100 0)), (0, .ref b)]) : WW X q s 243 ls [] := by
  obtain ⟨r1, r2⟩ := hr
  have g := A.1
  refine ww_aload_n (pc := 243) g.1 d_law_law_243 rfl (lv_at hl 3 rfl) ?_
  refine ww_lo fun dlo => ?_
  obtain ⟨⟨v, m1⟩, s1, hv, hJ1, hgb⟩ := ok_out hJ
  have hJ1 : Jt s1 n m1 (k + 1, 5 * k + 5) := hJ1
  refine wl_ref (pc := 244) (n0 := m) (n1 := m1) (rest := []) (As := []) A (n.1 + k, n.2 + 6 * k) cv_Mo_load_ kl_10 cl_Mo (pz rfl (by decide)) (fun hm => ct_Mo_load_ hm hv) ⟨by dsimp only; omega, by dsimp only; omega⟩ ⟨by decide, by decide⟩ rfl hl.1 (Nat.le_of_ble_eq_true rfl) d_law_law_244 rfl (fun q1 hE hr1 => ?_)
  obtain ⟨r1, r2⟩ := hr1
  have e155 : q1.1 155 0 = q.1 155 0 := hE _ _ (by decide) (dlo _ _ (pz rfl (by decide)))
  have e0 : q1.1 0 0 = q.1 0 0 := hE _ _ (by decide) (dlo _ _ (pz rfl (by decide)))
  have e100 : q1.1 100 0 = q.1 100 0 := hE _ _ (by decide) (dlo _ _ (pz rfl (by decide)))
  have hl : lv_has ls 8 [(5, .int kv), (4, .int (Int32.ofNat (3072 - 6 * (k + 1)))), (3, .ref (q1.1 155 0)), (2, .ref (q1.1 0 0)), (1, .ref (q1.1 100 0)), (0, .ref b)] := by rw [e155, e0, e100]; exact hl
  refine ww_st (st' := [.int v]) rfl ?_
  refine ww_istore (pc := 247) (i := 6) g.1 (lv' := [(6, .int v), (5, .int kv), (4, .int (Int32.ofNat (3072 - 6 * (k + 1)))), (3, .ref (q1.1 155 0)), (2, .ref (q1.1 0 0)), (1, .ref (q1.1 100 0)), (0, .ref b)]) d_law_law_247 hl (by decide) rfl fun ls hl => ?_
  refine ww_goto (pc := 249) (tgt := 501) g.1 d_law_law_249 (by decide) ?_
  exact wl_tail A hk hI (jt_e hJ1) ⟨by dsimp only at r1; omega, by dsimp only at r2; omega⟩ (lv_sub hl [2, 3, 4, 5, 6] rfl)
theorem rk_fault {X : Cx} {b L : Nat} {f : Nat → Int32} (A : LA X b L f) {k : Nat} (hk : k < 512) (hI : LI X b k) (hj : 3072 - 6 * (k + 1) + 6 ≤ L) {q : PL} {s : S1} {n m : Nat × Nat} {ls : Array Slot} {kv : Int32} (hJ : ok (M_Mo_fault (f (3072 - 6 * (k + 1) + 1))) s (fun _ w => Jt w n m (k + 1, 5 * k + 5) ∧ gB w 155 0 0 = gB s 155 0 0)) (hr : Lr X q n m k) (hl : lv_has ls 8 [(5, .int kv), (4, .int (Int32.ofNat (3072 - 6 * (k + 1)))), (3, .ref (q.1 155 0)), (2, .ref (q.1 0 0)), (1, .ref (q.1 100 0)), (0, .ref b)]) : WW X q s 265 ls [] := by
  obtain ⟨r1, r2⟩ := hr
  have g := A.1
  refine ww_aload_n (pc := 265) g.1 d_law_law_265 rfl (lv_at hl 3 rfl) ?_
  refine wl_arg A hl (j := 3072 - 6 * (k + 1)) 5 1 rfl rfl (c := 1) (by decide) (by omega) d_law_law_266 d_law_law_267 d_law_law_269 d_law_law_270 d_law_law_271 ?_
  refine ww_lo fun dlo => ?_
  obtain ⟨v, s1, hv, hJ1, hgb⟩ := ok_out hJ
  refine wl_ref (pc := 272) (n0 := m) (n1 := m) (rest := []) (As := [.int (f (3072 - 6 * (k + 1) + 1))]) A (n.1 + k, n.2 + 6 * k) cv_Mo_fault kl_13 cl_Mo (pz rfl (by decide)) (fun hm => ct_ctX (ct_Mo_fault hv) hm) ⟨by dsimp only; omega, by dsimp only; omega⟩ ⟨by decide, by decide⟩ rfl hl.1 (Nat.le_of_ble_eq_true rfl) d_law_law_272 rfl (fun q1 hE hr1 => ?_)
  obtain ⟨r1, r2⟩ := hr1
  have e155 : q1.1 155 0 = q.1 155 0 := hE _ _ (by decide) (dlo _ _ (pz rfl (by decide)))
  have e0 : q1.1 0 0 = q.1 0 0 := hE _ _ (by decide) (dlo _ _ (pz rfl (by decide)))
  have e100 : q1.1 100 0 = q.1 100 0 := hE _ _ (by decide) (dlo _ _ (pz rfl (by decide)))
  have hl : lv_has ls 8 [(5, .int kv), (4, .int (Int32.ofNat (3072 - 6 * (k + 1)))), (3, .ref (q1.1 155 0)), (2, .ref (q1.1 0 0)), (1, .ref (q1.1 100 0)), (0, .ref b)] := by rw [e155, e0, e100]; exact hl
  refine ww_st (st' := [.int v]) rfl ?_
  refine ww_istore (pc := 275) (i := 6) g.1 (lv' := [(6, .int v), (5, .int kv), (4, .int (Int32.ofNat (3072 - 6 * (k + 1)))), (3, .ref (q1.1 155 0)), (2, .ref (q1.1 0 0)), (1, .ref (q1.1 100 0)), (0, .ref b)]) d_law_law_275 hl (by decide) rfl fun ls hl => ?_
  refine ww_goto (pc := 277) (tgt := 501) g.1 d_law_law_277 (by decide) ?_
  exact wl_tail A hk hI (jt_e hJ1) ⟨by dsimp only at r1; omega, by dsimp only at r2; omega⟩ (lv_sub hl [2, 3, 4, 5, 6] rfl)
theorem rk_limit {X : Cx} {b L : Nat} {f : Nat → Int32} (A : LA X b L f) {k : Nat} (hk : k < 512) (hI : LI X b k) (hj : 3072 - 6 * (k + 1) + 6 ≤ L) {q : PL} {s : S1} {n m : Nat × Nat} {ls : Array Slot} (r : Int32 ⊕ Int32) {kv : Int32} (hJ : ok (M_Mo_limit (f (3072 - 6 * (k + 1) + 1))) s (fun v w => Jt w n m (k + 1, 5 * k + 5) ∧ gB w 155 0 0 = gB s 155 0 0 ∧ ((r = .inr v ∧ gI w 2 0 = 0) ∨ (r = .inl 2 ∧ v = 0 ∧ gI w 2 0 = 1)))) (hr : Lr X q n m k) (hl : lv_has ls 8 [(5, .int kv), (4, .int (Int32.ofNat (3072 - 6 * (k + 1)))), (3, .ref (q.1 155 0)), (2, .ref (q.1 0 0)), (1, .ref (q.1 100 0)), (0, .ref b)]) : WW X q s 293 ls [] := by
  obtain ⟨r1, r2⟩ := hr
  have g := A.1
  refine ww_aload_n (pc := 293) g.1 d_law_law_293 rfl (lv_at hl 3 rfl) ?_
  refine wl_arg A hl (j := 3072 - 6 * (k + 1)) 5 1 rfl rfl (c := 1) (by decide) (by omega) d_law_law_294 d_law_law_295 d_law_law_297 d_law_law_298 d_law_law_299 ?_
  refine ww_lo fun dlo => ?_
  obtain ⟨v, s1, hv, hJ1, hgb, hor⟩ := ok_out hJ
  refine wl_ref (pc := 300) (n0 := m) (n1 := m) (rest := []) (As := [.int (f (3072 - 6 * (k + 1) + 1))]) A (n.1 + k, n.2 + 6 * k) cv_Mo_limit kl_16 cl_Mo (pz rfl (by decide)) (fun hm => ct_ctX (ct_Mo_limit hv) hm) ⟨by dsimp only; omega, by dsimp only; omega⟩ ⟨by decide, by decide⟩ rfl hl.1 (Nat.le_of_ble_eq_true rfl) d_law_law_300 rfl (fun q1 hE hr1 => ?_)
  obtain ⟨r1, r2⟩ := hr1
  have e155 : q1.1 155 0 = q.1 155 0 := hE _ _ (by decide) (dlo _ _ (pz rfl (by decide)))
  have e0 : q1.1 0 0 = q.1 0 0 := hE _ _ (by decide) (dlo _ _ (pz rfl (by decide)))
  have e100 : q1.1 100 0 = q.1 100 0 := hE _ _ (by decide) (dlo _ _ (pz rfl (by decide)))
  have hl : lv_has ls 8 [(5, .int kv), (4, .int (Int32.ofNat (3072 - 6 * (k + 1)))), (3, .ref (q1.1 155 0)), (2, .ref (q1.1 0 0)), (1, .ref (q1.1 100 0)), (0, .ref b)] := by rw [e155, e0, e100]; exact hl
  refine ww_st (st' := [.int v]) rfl ?_
  refine ww_istore (pc := 303) (i := 6) g.1 (lv' := [(6, .int v), (5, .int kv), (4, .int (Int32.ofNat (3072 - 6 * (k + 1)))), (3, .ref (q1.1 155 0)), (2, .ref (q1.1 0 0)), (1, .ref (q1.1 100 0)), (0, .ref b)]) d_law_law_303 hl (by decide) rfl fun ls hl => ?_
  refine ww_goto (pc := 305) (tgt := 501) g.1 d_law_law_305 (by decide) ?_
  exact wl_tail A hk hI (jt_e hJ1) ⟨by dsimp only at r1; omega, by dsimp only at r2; omega⟩ (lv_sub hl [2, 3, 4, 5, 6] rfl)
theorem rk_run {X : Cx} {b L : Nat} {f : Nat → Int32} (A : LA X b L f) {k : Nat} (hk : k < 512) (hI : LI X b k) (hj : 3072 - 6 * (k + 1) + 6 ≤ L) {q : PL} {s : S1} {n m : Nat × Nat} {ls : Array Slot} {kv : Int32} (hJ : ok (M_Mo_run (f (3072 - 6 * (k + 1) + 1))) s (fun _ w => Jt w n m (k + 1, 5 * k + 5) ∧ gB w 155 0 0 = gB s 155 0 0)) (hr : Lr X q n m k) (hl : lv_has ls 8 [(5, .int kv), (4, .int (Int32.ofNat (3072 - 6 * (k + 1)))), (3, .ref (q.1 155 0)), (2, .ref (q.1 0 0)), (1, .ref (q.1 100 0)), (0, .ref b)]) : WW X q s 321 ls [] := by
  obtain ⟨r1, r2⟩ := hr
  have g := A.1
  refine ww_aload_n (pc := 321) g.1 d_law_law_321 rfl (lv_at hl 3 rfl) ?_
  refine wl_arg A hl (j := 3072 - 6 * (k + 1)) 5 1 rfl rfl (c := 1) (by decide) (by omega) d_law_law_322 d_law_law_323 d_law_law_325 d_law_law_326 d_law_law_327 ?_
  refine ww_lo fun dlo => ?_
  obtain ⟨v, s1, hv, hJ1, hgb⟩ := ok_out hJ
  refine wl_ref (pc := 328) (n0 := m) (n1 := m) (rest := []) (As := [.int (f (3072 - 6 * (k + 1) + 1))]) A (n.1 + k, n.2 + 6 * k) cv_Mo_run kl_19 cl_Mo (pz rfl (by decide)) (fun hm => ct_ctX (ct_Mo_run hv) hm) ⟨by dsimp only; omega, by dsimp only; omega⟩ ⟨by decide, by decide⟩ rfl hl.1 (Nat.le_of_ble_eq_true rfl) d_law_law_328 rfl (fun q1 hE hr1 => ?_)
  obtain ⟨r1, r2⟩ := hr1
  have e155 : q1.1 155 0 = q.1 155 0 := hE _ _ (by decide) (dlo _ _ (pz rfl (by decide)))
  have e0 : q1.1 0 0 = q.1 0 0 := hE _ _ (by decide) (dlo _ _ (pz rfl (by decide)))
  have e100 : q1.1 100 0 = q.1 100 0 := hE _ _ (by decide) (dlo _ _ (pz rfl (by decide)))
  have hl : lv_has ls 8 [(5, .int kv), (4, .int (Int32.ofNat (3072 - 6 * (k + 1)))), (3, .ref (q1.1 155 0)), (2, .ref (q1.1 0 0)), (1, .ref (q1.1 100 0)), (0, .ref b)] := by rw [e155, e0, e100]; exact hl
  refine ww_st (st' := [.int v]) rfl ?_
  refine ww_istore (pc := 331) (i := 6) g.1 (lv' := [(6, .int v), (5, .int kv), (4, .int (Int32.ofNat (3072 - 6 * (k + 1)))), (3, .ref (q1.1 155 0)), (2, .ref (q1.1 0 0)), (1, .ref (q1.1 100 0)), (0, .ref b)]) d_law_law_331 hl (by decide) rfl fun ls hl => ?_
  refine ww_goto (pc := 333) (tgt := 501) g.1 d_law_law_333 (by decide) ?_
  exact wl_tail A hk hI (jt_e hJ1) ⟨by dsimp only at r1; omega, by dsimp only at r2; omega⟩ (lv_sub hl [2, 3, 4, 5, 6] rfl)
theorem rk_collect {X : Cx} {b L : Nat} {f : Nat → Int32} (A : LA X b L f) {k : Nat} (hk : k < 512) (hI : LI X b k) (hj : 3072 - 6 * (k + 1) + 6 ≤ L) {q : PL} {s : S1} {n m : Nat × Nat} {ls : Array Slot} {kv : Int32} (hJ : ok M_Mo_collect s (fun _ w => Jt w n m (k + 1, 5 * k + 5) ∧ gB w 155 0 0 = gB s 155 0 0)) (hr : Lr X q n m k) (hl : lv_has ls 8 [(5, .int kv), (4, .int (Int32.ofNat (3072 - 6 * (k + 1)))), (3, .ref (q.1 155 0)), (2, .ref (q.1 0 0)), (1, .ref (q.1 100 0)), (0, .ref b)]) : WW X q s 343 ls [] := by
  obtain ⟨r1, r2⟩ := hr
  have g := A.1
  refine ww_aload_n (pc := 343) g.1 d_law_law_343 rfl (lv_at hl 3 rfl) ?_
  refine ww_lo fun dlo => ?_
  obtain ⟨v, s1, hv, hJ1, hgb⟩ := ok_out hJ
  refine wl_ref (pc := 344) (n0 := m) (n1 := m) (rest := []) (As := []) A (n.1 + k, n.2 + 6 * k) cv_Mo_collect kl_22 cl_Mo (pz rfl (by decide)) (fun hm => ct_ctX (ct_Mo_collect hv) hm) ⟨by dsimp only; omega, by dsimp only; omega⟩ ⟨by decide, by decide⟩ rfl hl.1 (Nat.le_of_ble_eq_true rfl) d_law_law_344 rfl (fun q1 hE hr1 => ?_)
  obtain ⟨r1, r2⟩ := hr1
  have e155 : q1.1 155 0 = q.1 155 0 := hE _ _ (by decide) (dlo _ _ (pz rfl (by decide)))
  have e0 : q1.1 0 0 = q.1 0 0 := hE _ _ (by decide) (dlo _ _ (pz rfl (by decide)))
  have e100 : q1.1 100 0 = q.1 100 0 := hE _ _ (by decide) (dlo _ _ (pz rfl (by decide)))
  have hl : lv_has ls 8 [(5, .int kv), (4, .int (Int32.ofNat (3072 - 6 * (k + 1)))), (3, .ref (q1.1 155 0)), (2, .ref (q1.1 0 0)), (1, .ref (q1.1 100 0)), (0, .ref b)] := by rw [e155, e0, e100]; exact hl
  refine ww_st (st' := [.int v]) rfl ?_
  refine ww_istore (pc := 347) (i := 6) g.1 (lv' := [(6, .int v), (5, .int kv), (4, .int (Int32.ofNat (3072 - 6 * (k + 1)))), (3, .ref (q1.1 155 0)), (2, .ref (q1.1 0 0)), (1, .ref (q1.1 100 0)), (0, .ref b)]) d_law_law_347 hl (by decide) rfl fun ls hl => ?_
  refine ww_goto (pc := 349) (tgt := 501) g.1 d_law_law_349 (by decide) ?_
  exact wl_tail A hk hI (jt_e hJ1) ⟨by dsimp only at r1; omega, by dsimp only at r2; omega⟩ (lv_sub hl [2, 3, 4, 5, 6] rfl)
theorem rk_kind {X : Cx} {b L : Nat} {f : Nat → Int32} (A : LA X b L f) {k : Nat} (hk : k < 512) (hI : LI X b k) (hj : 3072 - 6 * (k + 1) + 6 ≤ L) {q : PL} {s : S1} {n m : Nat × Nat} {ls : Array Slot} {kv : Int32} (hJ : ok (M_Mo_kind (f (3072 - 6 * (k + 1) + 1))) s (fun _ w => Jt w n m (k + 1, 5 * k + 5) ∧ gB w 155 0 0 = gB s 155 0 0)) (hr : Lr X q n m k) (hl : lv_has ls 8 [(5, .int kv), (4, .int (Int32.ofNat (3072 - 6 * (k + 1)))), (3, .ref (q.1 155 0)), (2, .ref (q.1 0 0)), (1, .ref (q.1 100 0)), (0, .ref b)]) : WW X q s 365 ls [] := by
  obtain ⟨r1, r2⟩ := hr
  have g := A.1
  refine ww_aload_n (pc := 365) g.1 d_law_law_365 rfl (lv_at hl 3 rfl) ?_
  refine wl_arg A hl (j := 3072 - 6 * (k + 1)) 5 1 rfl rfl (c := 1) (by decide) (by omega) d_law_law_366 d_law_law_367 d_law_law_369 d_law_law_370 d_law_law_371 ?_
  refine ww_lo fun dlo => ?_
  obtain ⟨v, s1, hv, hJ1, hgb⟩ := ok_out hJ
  refine wl_ref (pc := 372) (n0 := m) (n1 := m) (rest := []) (As := [.int (f (3072 - 6 * (k + 1) + 1))]) A (n.1 + k, n.2 + 6 * k) cv_Mo_kind kl_25 cl_Mo (pz rfl (by decide)) (fun hm => ct_ctX (ct_Mo_kind hv) hm) ⟨by dsimp only; omega, by dsimp only; omega⟩ ⟨by decide, by decide⟩ rfl hl.1 (Nat.le_of_ble_eq_true rfl) d_law_law_372 rfl (fun q1 hE hr1 => ?_)
  obtain ⟨r1, r2⟩ := hr1
  have e155 : q1.1 155 0 = q.1 155 0 := hE _ _ (by decide) (dlo _ _ (pz rfl (by decide)))
  have e0 : q1.1 0 0 = q.1 0 0 := hE _ _ (by decide) (dlo _ _ (pz rfl (by decide)))
  have e100 : q1.1 100 0 = q.1 100 0 := hE _ _ (by decide) (dlo _ _ (pz rfl (by decide)))
  have hl : lv_has ls 8 [(5, .int kv), (4, .int (Int32.ofNat (3072 - 6 * (k + 1)))), (3, .ref (q1.1 155 0)), (2, .ref (q1.1 0 0)), (1, .ref (q1.1 100 0)), (0, .ref b)] := by rw [e155, e0, e100]; exact hl
  refine ww_st (st' := [.int v]) rfl ?_
  refine ww_istore (pc := 375) (i := 6) g.1 (lv' := [(6, .int v), (5, .int kv), (4, .int (Int32.ofNat (3072 - 6 * (k + 1)))), (3, .ref (q1.1 155 0)), (2, .ref (q1.1 0 0)), (1, .ref (q1.1 100 0)), (0, .ref b)]) d_law_law_375 hl (by decide) rfl fun ls hl => ?_
  refine ww_goto (pc := 377) (tgt := 501) g.1 d_law_law_377 (by decide) ?_
  exact wl_tail A hk hI (jt_e hJ1) ⟨by dsimp only at r1; omega, by dsimp only at r2; omega⟩ (lv_sub hl [2, 3, 4, 5, 6] rfl)
theorem rk_value {X : Cx} {b L : Nat} {f : Nat → Int32} (A : LA X b L f) {k : Nat} (hk : k < 512) (hI : LI X b k) (hj : 3072 - 6 * (k + 1) + 6 ≤ L) {q : PL} {s : S1} {n m : Nat × Nat} {ls : Array Slot} {kv : Int32} (hJ : ok (M_Mo_value (f (3072 - 6 * (k + 1) + 1))) s (fun _ w => Jt w n m (k + 1, 5 * k + 5) ∧ gB w 155 0 0 = gB s 155 0 0)) (hr : Lr X q n m k) (hl : lv_has ls 8 [(5, .int kv), (4, .int (Int32.ofNat (3072 - 6 * (k + 1)))), (3, .ref (q.1 155 0)), (2, .ref (q.1 0 0)), (1, .ref (q.1 100 0)), (0, .ref b)]) : WW X q s 393 ls [] := by
  obtain ⟨r1, r2⟩ := hr
  have g := A.1
  refine ww_aload_n (pc := 393) g.1 d_law_law_393 rfl (lv_at hl 3 rfl) ?_
  refine wl_arg A hl (j := 3072 - 6 * (k + 1)) 5 1 rfl rfl (c := 1) (by decide) (by omega) d_law_law_394 d_law_law_395 d_law_law_397 d_law_law_398 d_law_law_399 ?_
  refine ww_lo fun dlo => ?_
  obtain ⟨v, s1, hv, hJ1, hgb⟩ := ok_out hJ
  refine wl_ref (pc := 400) (n0 := m) (n1 := m) (rest := []) (As := [.int (f (3072 - 6 * (k + 1) + 1))]) A (n.1 + k, n.2 + 6 * k) cv_Mo_value kl_28 cl_Mo (pz rfl (by decide)) (fun hm => ct_ctX (ct_Mo_value hv) hm) ⟨by dsimp only; omega, by dsimp only; omega⟩ ⟨by decide, by decide⟩ rfl hl.1 (Nat.le_of_ble_eq_true rfl) d_law_law_400 rfl (fun q1 hE hr1 => ?_)
  obtain ⟨r1, r2⟩ := hr1
  have e155 : q1.1 155 0 = q.1 155 0 := hE _ _ (by decide) (dlo _ _ (pz rfl (by decide)))
  have e0 : q1.1 0 0 = q.1 0 0 := hE _ _ (by decide) (dlo _ _ (pz rfl (by decide)))
  have e100 : q1.1 100 0 = q.1 100 0 := hE _ _ (by decide) (dlo _ _ (pz rfl (by decide)))
  have hl : lv_has ls 8 [(5, .int kv), (4, .int (Int32.ofNat (3072 - 6 * (k + 1)))), (3, .ref (q1.1 155 0)), (2, .ref (q1.1 0 0)), (1, .ref (q1.1 100 0)), (0, .ref b)] := by rw [e155, e0, e100]; exact hl
  refine ww_st (st' := [.long v]) rfl ?_
  refine ww_lstore (pc := 403) (i := 6) g.1 (lv' := [(6, .long v), (5, .int kv), (4, .int (Int32.ofNat (3072 - 6 * (k + 1)))), (3, .ref (q1.1 155 0)), (2, .ref (q1.1 0 0)), (1, .ref (q1.1 100 0)), (0, .ref b)]) d_law_law_403 hl (by decide) rfl fun ls hl => ?_
  refine ww_goto (pc := 405) (tgt := 501) g.1 d_law_law_405 (by decide) ?_
  exact wl_tail A hk hI (jt_e hJ1) ⟨by dsimp only at r1; omega, by dsimp only at r2; omega⟩ (lv_sub hl [2, 3, 4, 5, 6] rfl)
theorem rk_byteOf {X : Cx} {b L : Nat} {f : Nat → Int32} (A : LA X b L f) {k : Nat} (hk : k < 512) (hI : LI X b k) (hj : 3072 - 6 * (k + 1) + 6 ≤ L) {q : PL} {s : S1} {n m : Nat × Nat} {ls : Array Slot} {kv : Int32} (hJ : ok (M_Mo_byteOf_ (f (3072 - 6 * (k + 1) + 1)) (f (3072 - 6 * (k + 1) + 2))) s (fun _ w => Jt w n m (k + 1, 5 * k + 5) ∧ gB w 155 0 0 = gB s 155 0 0)) (hr : Lr X q n m k) (hl : lv_has ls 8 [(5, .int kv), (4, .int (Int32.ofNat (3072 - 6 * (k + 1)))), (3, .ref (q.1 155 0)), (2, .ref (q.1 0 0)), (1, .ref (q.1 100 0)), (0, .ref b)]) : WW X q s 427 ls [] := by
  obtain ⟨r1, r2⟩ := hr
  have g := A.1
  refine ww_aload_n (pc := 427) g.1 d_law_law_427 rfl (lv_at hl 3 rfl) ?_
  refine wl_arg A hl (j := 3072 - 6 * (k + 1)) 5 1 rfl rfl (c := 1) (by decide) (by omega) d_law_law_428 d_law_law_429 d_law_law_431 d_law_law_432 d_law_law_433 ?_
  refine wl_arg A hl (j := 3072 - 6 * (k + 1)) 5 1 rfl rfl (c := 2) (by decide) (by omega) d_law_law_434 d_law_law_435 d_law_law_437 d_law_law_438 d_law_law_439 ?_
  refine ww_lo fun dlo => ?_
  obtain ⟨v, s1, hv, hJ1, hgb⟩ := ok_out hJ
  refine wl_ref (pc := 440) (n0 := m) (n1 := m) (rest := []) (As := [.int (f (3072 - 6 * (k + 1) + 1)), .int (f (3072 - 6 * (k + 1) + 2))]) A (n.1 + k, n.2 + 6 * k) cv_Mo_byteOf_ kl_31 cl_Mo (pz rfl (by decide)) (fun hm => ct_ctX (ct_Mo_byteOf_ hv) hm) ⟨by dsimp only; omega, by dsimp only; omega⟩ ⟨by decide, by decide⟩ rfl hl.1 (Nat.le_of_ble_eq_true rfl) d_law_law_440 rfl (fun q1 hE hr1 => ?_)
  obtain ⟨r1, r2⟩ := hr1
  have e155 : q1.1 155 0 = q.1 155 0 := hE _ _ (by decide) (dlo _ _ (pz rfl (by decide)))
  have e0 : q1.1 0 0 = q.1 0 0 := hE _ _ (by decide) (dlo _ _ (pz rfl (by decide)))
  have e100 : q1.1 100 0 = q.1 100 0 := hE _ _ (by decide) (dlo _ _ (pz rfl (by decide)))
  have hl : lv_has ls 8 [(5, .int kv), (4, .int (Int32.ofNat (3072 - 6 * (k + 1)))), (3, .ref (q1.1 155 0)), (2, .ref (q1.1 0 0)), (1, .ref (q1.1 100 0)), (0, .ref b)] := by rw [e155, e0, e100]; exact hl
  refine ww_st (st' := [.int v]) rfl ?_
  refine ww_istore (pc := 443) (i := 6) g.1 (lv' := [(6, .int v), (5, .int kv), (4, .int (Int32.ofNat (3072 - 6 * (k + 1)))), (3, .ref (q1.1 155 0)), (2, .ref (q1.1 0 0)), (1, .ref (q1.1 100 0)), (0, .ref b)]) d_law_law_443 hl (by decide) rfl fun ls hl => ?_
  refine ww_goto (pc := 445) (tgt := 501) g.1 d_law_law_445 (by decide) ?_
  exact wl_tail A hk hI (jt_e hJ1) ⟨by dsimp only at r1; omega, by dsimp only at r2; omega⟩ (lv_sub hl [2, 3, 4, 5, 6] rfl)
theorem rk_output {X : Cx} {b L : Nat} {f : Nat → Int32} (A : LA X b L f) {k : Nat} (hk : k < 512) (hI : LI X b k) (hj : 3072 - 6 * (k + 1) + 6 ≤ L) {q : PL} {s : S1} {n m : Nat × Nat} {ls : Array Slot} {kv : Int32} (hJ : ok (M_Mo_output (f (3072 - 6 * (k + 1) + 1))) s (fun _ w => Jt w n m (k + 1, 5 * k + 5) ∧ gB w 155 0 0 = gB s 155 0 0)) (hr : Lr X q n m k) (hl : lv_has ls 8 [(5, .int kv), (4, .int (Int32.ofNat (3072 - 6 * (k + 1)))), (3, .ref (q.1 155 0)), (2, .ref (q.1 0 0)), (1, .ref (q.1 100 0)), (0, .ref b)]) : WW X q s 461 ls [] := by
  obtain ⟨r1, r2⟩ := hr
  have g := A.1
  refine ww_aload_n (pc := 461) g.1 d_law_law_461 rfl (lv_at hl 3 rfl) ?_
  refine wl_arg A hl (j := 3072 - 6 * (k + 1)) 5 1 rfl rfl (c := 1) (by decide) (by omega) d_law_law_462 d_law_law_463 d_law_law_465 d_law_law_466 d_law_law_467 ?_
  refine ww_lo fun dlo => ?_
  obtain ⟨v, s1, hv, hJ1, hgb⟩ := ok_out hJ
  refine wl_ref (pc := 468) (n0 := m) (n1 := m) (rest := []) (As := [.int (f (3072 - 6 * (k + 1) + 1))]) A (n.1 + k, n.2 + 6 * k) cv_Mo_output kl_34 cl_Mo (pz rfl (by decide)) (fun hm => ct_ctX (ct_Mo_output hv) hm) ⟨by dsimp only; omega, by dsimp only; omega⟩ ⟨by decide, by decide⟩ rfl hl.1 (Nat.le_of_ble_eq_true rfl) d_law_law_468 rfl (fun q1 hE hr1 => ?_)
  obtain ⟨r1, r2⟩ := hr1
  have e155 : q1.1 155 0 = q.1 155 0 := hE _ _ (by decide) (dlo _ _ (pz rfl (by decide)))
  have e0 : q1.1 0 0 = q.1 0 0 := hE _ _ (by decide) (dlo _ _ (pz rfl (by decide)))
  have e100 : q1.1 100 0 = q.1 100 0 := hE _ _ (by decide) (dlo _ _ (pz rfl (by decide)))
  have hl : lv_has ls 8 [(5, .int kv), (4, .int (Int32.ofNat (3072 - 6 * (k + 1)))), (3, .ref (q1.1 155 0)), (2, .ref (q1.1 0 0)), (1, .ref (q1.1 100 0)), (0, .ref b)] := by rw [e155, e0, e100]; exact hl
  refine ww_st (st' := [.int v]) rfl ?_
  refine ww_istore (pc := 471) (i := 6) g.1 (lv' := [(6, .int v), (5, .int kv), (4, .int (Int32.ofNat (3072 - 6 * (k + 1)))), (3, .ref (q1.1 155 0)), (2, .ref (q1.1 0 0)), (1, .ref (q1.1 100 0)), (0, .ref b)]) d_law_law_471 hl (by decide) rfl fun ls hl => ?_
  refine ww_goto (pc := 473) (tgt := 501) g.1 d_law_law_473 (by decide) ?_
  exact wl_tail A hk hI (jt_e hJ1) ⟨by dsimp only at r1; omega, by dsimp only at r2; omega⟩ (lv_sub hl [2, 3, 4, 5, 6] rfl)
theorem rk_count {X : Cx} {b L : Nat} {f : Nat → Int32} (A : LA X b L f) {k : Nat} (hk : k < 512) (hI : LI X b k) (hj : 3072 - 6 * (k + 1) + 6 ≤ L) {q : PL} {s : S1} {n m : Nat × Nat} {ls : Array Slot} (hJ : ok (M_Mo_count (f (3072 - 6 * (k + 1) + 1))) s (fun _ w => Jt w n m (k + 1, 5 * k + 5) ∧ gB w 155 0 0 = gB s 155 0 0)) (hr : Lr X q n m k) (hl : lv_has ls 8 [(4, .int (Int32.ofNat (3072 - 6 * (k + 1)))), (3, .ref (q.1 155 0)), (2, .ref (q.1 0 0)), (1, .ref (q.1 100 0)), (0, .ref b)]) : WW X q s 487 ls [] := by
  obtain ⟨r1, r2⟩ := hr
  have g := A.1
  refine ww_aload_n (pc := 487) g.1 d_law_law_487 rfl (lv_at hl 2 rfl) ?_
  refine wl_arg A hl (j := 3072 - 6 * (k + 1)) 4 0 rfl rfl (c := 1) (by decide) (by omega) d_law_law_488 d_law_law_489 d_law_law_491 d_law_law_492 d_law_law_493 ?_
  refine ww_lo fun dlo => ?_
  obtain ⟨v, s1, hv, hJ1, hgb⟩ := ok_out hJ
  refine wl_ref (pc := 494) (n0 := m) (n1 := m) (rest := []) (As := [.int (f (3072 - 6 * (k + 1) + 1))]) A (n.1 + k, n.2 + 6 * k) cv_Mo_count kl_36 cl_Mo (pz rfl (by decide)) (fun hm => ct_ctX (ct_Mo_count hv) hm) ⟨by dsimp only; omega, by dsimp only; omega⟩ ⟨by decide, by decide⟩ rfl hl.1 (Nat.le_of_ble_eq_true rfl) d_law_law_494 rfl (fun q1 hE hr1 => ?_)
  obtain ⟨r1, r2⟩ := hr1
  have e155 : q1.1 155 0 = q.1 155 0 := hE _ _ (by decide) (dlo _ _ (pz rfl (by decide)))
  have e0 : q1.1 0 0 = q.1 0 0 := hE _ _ (by decide) (dlo _ _ (pz rfl (by decide)))
  have e100 : q1.1 100 0 = q.1 100 0 := hE _ _ (by decide) (dlo _ _ (pz rfl (by decide)))
  have hl : lv_has ls 8 [(4, .int (Int32.ofNat (3072 - 6 * (k + 1)))), (3, .ref (q1.1 155 0)), (2, .ref (q1.1 0 0)), (1, .ref (q1.1 100 0)), (0, .ref b)] := by rw [e155, e0, e100]; exact hl
  refine ww_st (st' := [.int v]) rfl ?_
  refine ww_pop (pc := 497) g.1 d_law_law_497 rfl ?_
  refine ww_goto (pc := 498) (tgt := 501) g.1 d_law_law_498 (by decide) ?_
  exact wl_tail A hk hI (jt_e hJ1) ⟨by dsimp only at r1; omega, by dsimp only at r2; omega⟩ (lv_sub hl [0, 1, 2, 3, 4] rfl)
theorem lk_feed {X : Cx} {b L : Nat} {f : Nat → Int32} (A : LA X b L f) {k : Nat} (hk : k < 512) (hI : LI X b k) (hj : 3072 - 6 * (k + 1) + 6 ≤ L) {q : PL} {s : S1} {n m : Nat × Nat} {ls : Array Slot} (hJ : Jt s n m (k + 1, 5 * k + 5)) (hr : Lr X q n m (k + 1)) (hl : lv_has ls 8 [(4, .int (Int32.ofNat (3072 - 6 * (k + 1)))), (3, .ref (q.1 155 0)), (2, .ref (q.1 0 0)), (1, .ref (q.1 100 0)), (0, .ref b)]) : WW X q s 104 ls [] := by
  obtain ⟨r1, r2⟩ := hr
  have g := A.1
  refine ww_aload_n (pc := 104) g.1 d_law_law_104 rfl (lv_at hl 3 rfl) ?_
  refine wl_arg A hl (j := 3072 - 6 * (k + 1)) 4 0 rfl rfl (c := 1) (by decide) (by omega) d_law_law_105 d_law_law_106 d_law_law_108 d_law_law_109 d_law_law_110 ?_
  refine wl_arg A hl (j := 3072 - 6 * (k + 1)) 4 0 rfl rfl (c := 2) (by decide) (by omega) d_law_law_111 d_law_law_112 d_law_law_114 d_law_law_115 d_law_law_116 ?_
  refine wl_arg A hl (j := 3072 - 6 * (k + 1)) 4 0 rfl rfl (c := 3) (by decide) (by omega) d_law_law_117 d_law_law_118 d_law_law_120 d_law_law_121 d_law_law_122 ?_
  refine wl_arg A hl (j := 3072 - 6 * (k + 1)) 4 0 rfl rfl (c := 4) (by decide) (by omega) d_law_law_123 d_law_law_124 d_law_law_126 d_law_law_127 d_law_law_128 ?_
  refine wl_arg A hl (j := 3072 - 6 * (k + 1)) 4 0 rfl rfl (c := 5) (by decide) (by omega) d_law_law_129 d_law_law_130 d_law_law_132 d_law_law_133 d_law_law_134 ?_
  refine ww_aload_n (pc := 135) g.1 d_law_law_135 rfl (lv_at hl 1 rfl) ?_
  refine ww_lo fun dlo => ?_
  obtain ⟨r, s1, hx, hq⟩ := ok_out (jp_feed (e := (k, 5 * k)) hJ (f (3072 - 6 * (k + 1) + 1)) (f (3072 - 6 * (k + 1) + 2)) (f (3072 - 6 * (k + 1) + 3)) (f (3072 - 6 * (k + 1) + 4)) (f (3072 - 6 * (k + 1) + 5)))
  rcases r with kx | v
  · refine wl_cls (nA := 7) (pc := 136) (n0 := (n.1 + 1, n.2 + 6)) (n1 := ((n.1 + 1) - 1, (n.2 + 6) - 6)) (rest := []) (As := [.ref (q.1 100 0), .int (f (3072 - 6 * (k + 1) + 1)), .int (f (3072 - 6 * (k + 1) + 2)), .int (f (3072 - 6 * (k + 1) + 3)), .int (f (3072 - 6 * (k + 1) + 4)), .int (f (3072 - 6 * (k + 1) + 5)), .ref (q.1 155 0)]) A (m.1 + k, m.2 + 6 * k) ⟨kl_0, kl_1, k_law_feed, by decide +kernel⟩ kl_2 (fun hm => wb_feed A.2.1 hm ⟨by dsimp only; omega, by dsimp only; omega⟩ hx) ⟨by dsimp only; omega, by dsimp only; omega⟩ ⟨by decide, by decide⟩ rfl hl.1 (Nat.le_of_ble_eq_true rfl) d_law_law_136 rfl (fun q1 hE hr1 => ?_)
    obtain ⟨r1, r2⟩ := hr1
    have e155 : q1.1 155 0 = q.1 155 0 := hE _ _ (by decide) (dlo _ _ (pz rfl (by decide)))
    have e0 : q1.1 0 0 = q.1 0 0 := hE _ _ (by decide) (dlo _ _ (pz rfl (by decide)))
    have e100 : q1.1 100 0 = q.1 100 0 := hE _ _ (by decide) (dlo _ _ (pz rfl (by decide)))
    have hl : lv_has ls 8 [(4, .int (Int32.ofNat (3072 - 6 * (k + 1)))), (3, .ref (q1.1 155 0)), (2, .ref (q1.1 0 0)), (1, .ref (q1.1 100 0)), (0, .ref b)] := by rw [e155, e0, e100]; exact hl
    refine ww_istore (pc := 139) (i := 5) g.1 (lv' := [(5, .int (cw_feed kx)), (4, .int (Int32.ofNat (3072 - 6 * (k + 1)))), (3, .ref (q1.1 155 0)), (2, .ref (q1.1 0 0)), (1, .ref (q1.1 100 0)), (0, .ref b)]) d_law_law_139 hl (by decide) rfl fun ls hl => ?_
    exact rk_feed A hk hI hj (s := s1) (Sum.inl kx) (show cw_feed kx = cw_feed kx from rfl) (hq _ (Or.inl rfl)) ⟨by dsimp only at r1 ⊢; omega, by dsimp only at r2 ⊢; omega⟩ hl
  · refine wl_cls (nA := 7) (pc := 136) (n0 := n) (n1 := n) (rest := []) (As := [.ref (q.1 100 0), .int (f (3072 - 6 * (k + 1) + 1)), .int (f (3072 - 6 * (k + 1) + 2)), .int (f (3072 - 6 * (k + 1) + 3)), .int (f (3072 - 6 * (k + 1) + 4)), .int (f (3072 - 6 * (k + 1) + 5)), .ref (q.1 155 0)]) A (m.1 + (k + 1), m.2 + 6 * (k + 1)) ⟨kl_0, kl_1, k_law_feed, by decide +kernel⟩ kl_2 (fun hm => wo_feed hm hx) ⟨by dsimp only; omega, by dsimp only; omega⟩ ⟨by decide, by decide⟩ rfl hl.1 (Nat.le_of_ble_eq_true rfl) d_law_law_136 rfl (fun q1 hE hr1 => ?_)
    obtain ⟨r1, r2⟩ := hr1
    have e155 : q1.1 155 0 = q.1 155 0 := hE _ _ (by decide) (dlo _ _ (pz rfl (by decide)))
    have e0 : q1.1 0 0 = q.1 0 0 := hE _ _ (by decide) (dlo _ _ (pz rfl (by decide)))
    have e100 : q1.1 100 0 = q.1 100 0 := hE _ _ (by decide) (dlo _ _ (pz rfl (by decide)))
    have hl : lv_has ls 8 [(4, .int (Int32.ofNat (3072 - 6 * (k + 1)))), (3, .ref (q1.1 155 0)), (2, .ref (q1.1 0 0)), (1, .ref (q1.1 100 0)), (0, .ref b)] := by rw [e155, e0, e100]; exact hl
    refine ww_istore (pc := 139) (i := 5) g.1 (lv' := [(5, .int 0), (4, .int (Int32.ofNat (3072 - 6 * (k + 1)))), (3, .ref (q1.1 155 0)), (2, .ref (q1.1 0 0)), (1, .ref (q1.1 100 0)), (0, .ref b)]) d_law_law_139 hl (by decide) rfl fun ls hl => ?_
    exact rk_feed A hk hI hj (s := sB s1 155 0 0 v.toInt64) (Sum.inr v) (show (0 : Int32) = 0 ∧ _ from ⟨rfl, by rw [gB_sB, if_pos ⟨rfl, rfl, rfl⟩]⟩) (hq _ (Or.inr ⟨_, rfl⟩)) ⟨by dsimp only at r1 ⊢; omega, by dsimp only at r2 ⊢; omega⟩ hl
theorem lk_end {X : Cx} {b L : Nat} {f : Nat → Int32} (A : LA X b L f) {k : Nat} (hk : k < 512) (hI : LI X b k) (hj : 3072 - 6 * (k + 1) + 6 ≤ L) {q : PL} {s : S1} {n m : Nat × Nat} {ls : Array Slot} (hJ : Jt s n m (k + 1, 5 * k + 5)) (hr : Lr X q n m (k + 1)) (hl : lv_has ls 8 [(4, .int (Int32.ofNat (3072 - 6 * (k + 1)))), (3, .ref (q.1 155 0)), (2, .ref (q.1 0 0)), (1, .ref (q.1 100 0)), (0, .ref b)]) : WW X q s 208 ls [] := by
  obtain ⟨r1, r2⟩ := hr
  have g := A.1
  refine ww_aload_n (pc := 208) g.1 d_law_law_208 rfl (lv_at hl 3 rfl) ?_
  refine wl_arg A hl (j := 3072 - 6 * (k + 1)) 4 0 rfl rfl (c := 1) (by decide) (by omega) d_law_law_209 d_law_law_210 d_law_law_212 d_law_law_213 d_law_law_214 ?_
  refine ww_aload_n (pc := 215) g.1 d_law_law_215 rfl (lv_at hl 1 rfl) ?_
  refine ww_lo fun dlo => ?_
  obtain ⟨r, s1, hx, hq⟩ := ok_out (jp_end hJ (f (3072 - 6 * (k + 1) + 1)))
  rcases r with kx | v
  · refine wl_cls (nA := 3) (pc := 216) (n0 := (n.1 + 1, n.2 + 6)) (n1 := ((n.1 + 1) - 1, (n.2 + 6) - 6)) (rest := []) (As := [.ref (q.1 100 0), .int (f (3072 - 6 * (k + 1) + 1)), .ref (q.1 155 0)]) A (m.1 + k, m.2 + 6 * k) ⟨kl_5, kl_1, k_law_end, by decide +kernel⟩ kl_6 (fun hm => wb_end A.2.1 hm ⟨by dsimp only; omega, by dsimp only; omega⟩ hx) ⟨by dsimp only; omega, by dsimp only; omega⟩ ⟨by decide, by decide⟩ rfl hl.1 (Nat.le_of_ble_eq_true rfl) d_law_law_216 rfl (fun q1 hE hr1 => ?_)
    obtain ⟨r1, r2⟩ := hr1
    have e155 : q1.1 155 0 = q.1 155 0 := hE _ _ (by decide) (dlo _ _ (pz rfl (by decide)))
    have e0 : q1.1 0 0 = q.1 0 0 := hE _ _ (by decide) (dlo _ _ (pz rfl (by decide)))
    have e100 : q1.1 100 0 = q.1 100 0 := hE _ _ (by decide) (dlo _ _ (pz rfl (by decide)))
    have hl : lv_has ls 8 [(4, .int (Int32.ofNat (3072 - 6 * (k + 1)))), (3, .ref (q1.1 155 0)), (2, .ref (q1.1 0 0)), (1, .ref (q1.1 100 0)), (0, .ref b)] := by rw [e155, e0, e100]; exact hl
    refine ww_istore (pc := 219) (i := 5) g.1 (lv' := [(5, .int (cw_end kx)), (4, .int (Int32.ofNat (3072 - 6 * (k + 1)))), (3, .ref (q1.1 155 0)), (2, .ref (q1.1 0 0)), (1, .ref (q1.1 100 0)), (0, .ref b)]) d_law_law_219 hl (by decide) rfl fun ls hl => ?_
    exact rk_end A hk hI hj (s := s1) (Sum.inl kx) (hq _ (Or.inl rfl)) ⟨by dsimp only at r1 ⊢; omega, by dsimp only at r2 ⊢; omega⟩ hl
  · refine wl_cls (nA := 3) (pc := 216) (n0 := n) (n1 := n) (rest := []) (As := [.ref (q.1 100 0), .int (f (3072 - 6 * (k + 1) + 1)), .ref (q.1 155 0)]) A (m.1 + (k + 1), m.2 + 6 * (k + 1)) ⟨kl_5, kl_1, k_law_end, by decide +kernel⟩ kl_6 (fun hm => wo_end hm hx) ⟨by dsimp only; omega, by dsimp only; omega⟩ ⟨by decide, by decide⟩ rfl hl.1 (Nat.le_of_ble_eq_true rfl) d_law_law_216 rfl (fun q1 hE hr1 => ?_)
    obtain ⟨r1, r2⟩ := hr1
    have e155 : q1.1 155 0 = q.1 155 0 := hE _ _ (by decide) (dlo _ _ (pz rfl (by decide)))
    have e0 : q1.1 0 0 = q.1 0 0 := hE _ _ (by decide) (dlo _ _ (pz rfl (by decide)))
    have e100 : q1.1 100 0 = q.1 100 0 := hE _ _ (by decide) (dlo _ _ (pz rfl (by decide)))
    have hl : lv_has ls 8 [(4, .int (Int32.ofNat (3072 - 6 * (k + 1)))), (3, .ref (q1.1 155 0)), (2, .ref (q1.1 0 0)), (1, .ref (q1.1 100 0)), (0, .ref b)] := by rw [e155, e0, e100]; exact hl
    refine ww_istore (pc := 219) (i := 5) g.1 (lv' := [(5, .int 0), (4, .int (Int32.ofNat (3072 - 6 * (k + 1)))), (3, .ref (q1.1 155 0)), (2, .ref (q1.1 0 0)), (1, .ref (q1.1 100 0)), (0, .ref b)]) d_law_law_219 hl (by decide) rfl fun ls hl => ?_
    exact rk_end A hk hI hj (s := sB s1 155 0 0 v.toInt64) (Sum.inr v) (hq _ (Or.inr ⟨_, rfl⟩)) ⟨by dsimp only at r1 ⊢; omega, by dsimp only at r2 ⊢; omega⟩ hl
theorem lk_load {X : Cx} {b L : Nat} {f : Nat → Int32} (A : LA X b L f) {k : Nat} (hk : k < 512) (hI : LI X b k) (hj : 3072 - 6 * (k + 1) + 6 ≤ L) {q : PL} {s : S1} {n m : Nat × Nat} {ls : Array Slot} (hJ : Jt s n m (k + 1, 5 * k + 5)) (hr : Lr X q n m (k + 1)) (hl : lv_has ls 8 [(4, .int (Int32.ofNat (3072 - 6 * (k + 1)))), (3, .ref (q.1 155 0)), (2, .ref (q.1 0 0)), (1, .ref (q.1 100 0)), (0, .ref b)]) : WW X q s 236 ls [] := by
  obtain ⟨r1, r2⟩ := hr
  have g := A.1
  refine ww_aload_n (pc := 236) g.1 d_law_law_236 rfl (lv_at hl 3 rfl) ?_
  refine ww_aload_n (pc := 237) g.1 d_law_law_237 rfl (lv_at hl 1 rfl) ?_
  refine ww_lo fun dlo => ?_
  obtain ⟨r, s1, hx, hq⟩ := ok_out (jp_load hJ)
  obtain ⟨r, n1⟩ := r
  rcases r with kx | v
  · refine wl_clsK (nA := 2) (pc := 238) (n0 := n) (n1 := n1) (rest := []) (As := [.ref (q.1 100 0), .ref (q.1 155 0)]) A (m.1 + (k + 1), m.2 + 6 * (k + 1)) ⟨kl_8, kl_1, k_law_load, by decide +kernel⟩ kl_9 (fun hm => wk_load A.2.1 hm ⟨show @LE.le Nat _ 1 _ by rw [pk_30]; dsimp only; omega, show @LE.le Nat _ 6 _ by rw [pk_31]; dsimp only; omega⟩ hx) ⟨by dsimp only; omega, by dsimp only; omega⟩ ⟨by decide, by decide⟩ rfl hl.1 (Nat.le_of_ble_eq_true rfl) d_law_law_238 rfl (fun q1 hE hr1 => ?_)
    obtain ⟨r1, r2⟩ := hr1
    have e155 : q1.1 155 0 = q.1 155 0 := hE _ _ (by decide) (dlo _ _ (pz rfl (by decide)))
    have e0 : q1.1 0 0 = q.1 0 0 := hE _ _ (by decide) (dlo _ _ (pz rfl (by decide)))
    have e100 : q1.1 100 0 = q.1 100 0 := hE _ _ (by decide) (dlo _ _ (pz rfl (by decide)))
    have hl : lv_has ls 8 [(4, .int (Int32.ofNat (3072 - 6 * (k + 1)))), (3, .ref (q1.1 155 0)), (2, .ref (q1.1 0 0)), (1, .ref (q1.1 100 0)), (0, .ref b)] := by rw [e155, e0, e100]; exact hl
    refine ww_istore (pc := 241) (i := 5) g.1 (lv' := [(5, .int (cw_load kx)), (4, .int (Int32.ofNat (3072 - 6 * (k + 1)))), (3, .ref (q1.1 155 0)), (2, .ref (q1.1 0 0)), (1, .ref (q1.1 100 0)), (0, .ref b)]) d_law_law_241 hl (by decide) rfl fun ls hl => ?_
    exact rk_load A hk hI hj (s := s1) (n := n1) (hq _ (Or.inl rfl)) ⟨by dsimp only at r1 ⊢; omega, by dsimp only at r2 ⊢; omega⟩ hl
  · refine wl_cls (nA := 2) (pc := 238) (n0 := n) (n1 := n1) (rest := []) (As := [.ref (q.1 100 0), .ref (q.1 155 0)]) A (m.1 + (k + 1), m.2 + 6 * (k + 1)) ⟨kl_8, kl_1, k_law_load, by decide +kernel⟩ kl_9 (fun hm => wo_load hm hx) ⟨by dsimp only; omega, by dsimp only; omega⟩ ⟨by decide, by decide⟩ rfl hl.1 (Nat.le_of_ble_eq_true rfl) d_law_law_238 rfl (fun q1 hE hr1 => ?_)
    obtain ⟨r1, r2⟩ := hr1
    have e155 : q1.1 155 0 = q.1 155 0 := hE _ _ (by decide) (dlo _ _ (pz rfl (by decide)))
    have e0 : q1.1 0 0 = q.1 0 0 := hE _ _ (by decide) (dlo _ _ (pz rfl (by decide)))
    have e100 : q1.1 100 0 = q.1 100 0 := hE _ _ (by decide) (dlo _ _ (pz rfl (by decide)))
    have hl : lv_has ls 8 [(4, .int (Int32.ofNat (3072 - 6 * (k + 1)))), (3, .ref (q1.1 155 0)), (2, .ref (q1.1 0 0)), (1, .ref (q1.1 100 0)), (0, .ref b)] := by rw [e155, e0, e100]; exact hl
    refine ww_istore (pc := 241) (i := 5) g.1 (lv' := [(5, .int 0), (4, .int (Int32.ofNat (3072 - 6 * (k + 1)))), (3, .ref (q1.1 155 0)), (2, .ref (q1.1 0 0)), (1, .ref (q1.1 100 0)), (0, .ref b)]) d_law_law_241 hl (by decide) rfl fun ls hl => ?_
    exact rk_load A hk hI hj (s := sB s1 155 0 0 v.toInt64) (n := n1) (hq _ (Or.inr ⟨_, rfl⟩)) ⟨by dsimp only at r1 ⊢; omega, by dsimp only at r2 ⊢; omega⟩ hl
theorem lk_fault {X : Cx} {b L : Nat} {f : Nat → Int32} (A : LA X b L f) {k : Nat} (hk : k < 512) (hI : LI X b k) (hj : 3072 - 6 * (k + 1) + 6 ≤ L) {q : PL} {s : S1} {n m : Nat × Nat} {ls : Array Slot} (hJ : Jt s n m (k + 1, 5 * k + 5)) (hr : Lr X q n m (k + 1)) (hl : lv_has ls 8 [(4, .int (Int32.ofNat (3072 - 6 * (k + 1)))), (3, .ref (q.1 155 0)), (2, .ref (q.1 0 0)), (1, .ref (q.1 100 0)), (0, .ref b)]) : WW X q s 252 ls [] := by
  obtain ⟨r1, r2⟩ := hr
  have g := A.1
  refine ww_aload_n (pc := 252) g.1 d_law_law_252 rfl (lv_at hl 3 rfl) ?_
  refine wl_arg A hl (j := 3072 - 6 * (k + 1)) 4 0 rfl rfl (c := 1) (by decide) (by omega) d_law_law_253 d_law_law_254 d_law_law_256 d_law_law_257 d_law_law_258 ?_
  refine ww_aload_n (pc := 259) g.1 d_law_law_259 rfl (lv_at hl 1 rfl) ?_
  refine ww_lo fun dlo => ?_
  obtain ⟨r, s1, hx, hq⟩ := ok_out (jp_fault hJ (f (3072 - 6 * (k + 1) + 1)))
  rcases r with kx | v
  · refine wl_cls (nA := 3) (pc := 260) (n0 := (n.1 + 1, n.2 + 6)) (n1 := ((n.1 + 1) - 1, (n.2 + 6) - 6)) (rest := []) (As := [.ref (q.1 100 0), .int (f (3072 - 6 * (k + 1) + 1)), .ref (q.1 155 0)]) A (m.1 + k, m.2 + 6 * k) ⟨kl_11, kl_1, k_law_fault, by decide +kernel⟩ kl_12 (fun hm => wb_fault A.2.1 hm ⟨by dsimp only; omega, by dsimp only; omega⟩ hx) ⟨by dsimp only; omega, by dsimp only; omega⟩ ⟨by decide, by decide⟩ rfl hl.1 (Nat.le_of_ble_eq_true rfl) d_law_law_260 rfl (fun q1 hE hr1 => ?_)
    obtain ⟨r1, r2⟩ := hr1
    have e155 : q1.1 155 0 = q.1 155 0 := hE _ _ (by decide) (dlo _ _ (pz rfl (by decide)))
    have e0 : q1.1 0 0 = q.1 0 0 := hE _ _ (by decide) (dlo _ _ (pz rfl (by decide)))
    have e100 : q1.1 100 0 = q.1 100 0 := hE _ _ (by decide) (dlo _ _ (pz rfl (by decide)))
    have hl : lv_has ls 8 [(4, .int (Int32.ofNat (3072 - 6 * (k + 1)))), (3, .ref (q1.1 155 0)), (2, .ref (q1.1 0 0)), (1, .ref (q1.1 100 0)), (0, .ref b)] := by rw [e155, e0, e100]; exact hl
    refine ww_istore (pc := 263) (i := 5) g.1 (lv' := [(5, .int (cw_fault kx)), (4, .int (Int32.ofNat (3072 - 6 * (k + 1)))), (3, .ref (q1.1 155 0)), (2, .ref (q1.1 0 0)), (1, .ref (q1.1 100 0)), (0, .ref b)]) d_law_law_263 hl (by decide) rfl fun ls hl => ?_
    exact rk_fault A hk hI hj (s := s1) (hq _ (Or.inl rfl)) ⟨by dsimp only at r1 ⊢; omega, by dsimp only at r2 ⊢; omega⟩ hl
  · refine wl_cls (nA := 3) (pc := 260) (n0 := n) (n1 := n) (rest := []) (As := [.ref (q.1 100 0), .int (f (3072 - 6 * (k + 1) + 1)), .ref (q.1 155 0)]) A (m.1 + (k + 1), m.2 + 6 * (k + 1)) ⟨kl_11, kl_1, k_law_fault, by decide +kernel⟩ kl_12 (fun hm => wo_fault hm hx) ⟨by dsimp only; omega, by dsimp only; omega⟩ ⟨by decide, by decide⟩ rfl hl.1 (Nat.le_of_ble_eq_true rfl) d_law_law_260 rfl (fun q1 hE hr1 => ?_)
    obtain ⟨r1, r2⟩ := hr1
    have e155 : q1.1 155 0 = q.1 155 0 := hE _ _ (by decide) (dlo _ _ (pz rfl (by decide)))
    have e0 : q1.1 0 0 = q.1 0 0 := hE _ _ (by decide) (dlo _ _ (pz rfl (by decide)))
    have e100 : q1.1 100 0 = q.1 100 0 := hE _ _ (by decide) (dlo _ _ (pz rfl (by decide)))
    have hl : lv_has ls 8 [(4, .int (Int32.ofNat (3072 - 6 * (k + 1)))), (3, .ref (q1.1 155 0)), (2, .ref (q1.1 0 0)), (1, .ref (q1.1 100 0)), (0, .ref b)] := by rw [e155, e0, e100]; exact hl
    refine ww_istore (pc := 263) (i := 5) g.1 (lv' := [(5, .int 0), (4, .int (Int32.ofNat (3072 - 6 * (k + 1)))), (3, .ref (q1.1 155 0)), (2, .ref (q1.1 0 0)), (1, .ref (q1.1 100 0)), (0, .ref b)]) d_law_law_263 hl (by decide) rfl fun ls hl => ?_
    exact rk_fault A hk hI hj (s := sB s1 155 0 0 v.toInt64) (hq _ (Or.inr ⟨_, rfl⟩)) ⟨by dsimp only at r1 ⊢; omega, by dsimp only at r2 ⊢; omega⟩ hl
theorem lk_limit {X : Cx} {b L : Nat} {f : Nat → Int32} (A : LA X b L f) {k : Nat} (hk : k < 512) (hI : LI X b k) (hj : 3072 - 6 * (k + 1) + 6 ≤ L) {q : PL} {s : S1} {n m : Nat × Nat} {ls : Array Slot} (hJ : Jt s n m (k + 1, 5 * k + 5)) (hr : Lr X q n m (k + 1)) (hl : lv_has ls 8 [(4, .int (Int32.ofNat (3072 - 6 * (k + 1)))), (3, .ref (q.1 155 0)), (2, .ref (q.1 0 0)), (1, .ref (q.1 100 0)), (0, .ref b)]) : WW X q s 280 ls [] := by
  obtain ⟨r1, r2⟩ := hr
  have g := A.1
  refine ww_aload_n (pc := 280) g.1 d_law_law_280 rfl (lv_at hl 3 rfl) ?_
  refine wl_arg A hl (j := 3072 - 6 * (k + 1)) 4 0 rfl rfl (c := 1) (by decide) (by omega) d_law_law_281 d_law_law_282 d_law_law_284 d_law_law_285 d_law_law_286 ?_
  refine ww_aload_n (pc := 287) g.1 d_law_law_287 rfl (lv_at hl 1 rfl) ?_
  refine ww_lo fun dlo => ?_
  obtain ⟨r, s1, hx, hq⟩ := ok_out (jp_limit hJ (f (3072 - 6 * (k + 1) + 1)))
  rcases r with kx | v
  · refine wl_cls (nA := 3) (pc := 288) (n0 := (n.1 + 1, n.2 + 6)) (n1 := ((n.1 + 1) - 1, (n.2 + 6) - 6)) (rest := []) (As := [.ref (q.1 100 0), .int (f (3072 - 6 * (k + 1) + 1)), .ref (q.1 155 0)]) A (m.1 + k, m.2 + 6 * k) ⟨kl_14, kl_1, k_law_limit, by decide +kernel⟩ kl_15 (fun hm => wb_limit A.2.1 hm ⟨by dsimp only; omega, by dsimp only; omega⟩ hx) ⟨by dsimp only; omega, by dsimp only; omega⟩ ⟨by decide, by decide⟩ rfl hl.1 (Nat.le_of_ble_eq_true rfl) d_law_law_288 rfl (fun q1 hE hr1 => ?_)
    obtain ⟨r1, r2⟩ := hr1
    have e155 : q1.1 155 0 = q.1 155 0 := hE _ _ (by decide) (dlo _ _ (pz rfl (by decide)))
    have e0 : q1.1 0 0 = q.1 0 0 := hE _ _ (by decide) (dlo _ _ (pz rfl (by decide)))
    have e100 : q1.1 100 0 = q.1 100 0 := hE _ _ (by decide) (dlo _ _ (pz rfl (by decide)))
    have hl : lv_has ls 8 [(4, .int (Int32.ofNat (3072 - 6 * (k + 1)))), (3, .ref (q1.1 155 0)), (2, .ref (q1.1 0 0)), (1, .ref (q1.1 100 0)), (0, .ref b)] := by rw [e155, e0, e100]; exact hl
    refine ww_istore (pc := 291) (i := 5) g.1 (lv' := [(5, .int (cw_limit kx)), (4, .int (Int32.ofNat (3072 - 6 * (k + 1)))), (3, .ref (q1.1 155 0)), (2, .ref (q1.1 0 0)), (1, .ref (q1.1 100 0)), (0, .ref b)]) d_law_law_291 hl (by decide) rfl fun ls hl => ?_
    exact rk_limit A hk hI hj (s := s1) (Sum.inl kx) (hq _ (Or.inl rfl)) ⟨by dsimp only at r1 ⊢; omega, by dsimp only at r2 ⊢; omega⟩ hl
  · refine wl_cls (nA := 3) (pc := 288) (n0 := n) (n1 := n) (rest := []) (As := [.ref (q.1 100 0), .int (f (3072 - 6 * (k + 1) + 1)), .ref (q.1 155 0)]) A (m.1 + (k + 1), m.2 + 6 * (k + 1)) ⟨kl_14, kl_1, k_law_limit, by decide +kernel⟩ kl_15 (fun hm => wo_limit hm hx) ⟨by dsimp only; omega, by dsimp only; omega⟩ ⟨by decide, by decide⟩ rfl hl.1 (Nat.le_of_ble_eq_true rfl) d_law_law_288 rfl (fun q1 hE hr1 => ?_)
    obtain ⟨r1, r2⟩ := hr1
    have e155 : q1.1 155 0 = q.1 155 0 := hE _ _ (by decide) (dlo _ _ (pz rfl (by decide)))
    have e0 : q1.1 0 0 = q.1 0 0 := hE _ _ (by decide) (dlo _ _ (pz rfl (by decide)))
    have e100 : q1.1 100 0 = q.1 100 0 := hE _ _ (by decide) (dlo _ _ (pz rfl (by decide)))
    have hl : lv_has ls 8 [(4, .int (Int32.ofNat (3072 - 6 * (k + 1)))), (3, .ref (q1.1 155 0)), (2, .ref (q1.1 0 0)), (1, .ref (q1.1 100 0)), (0, .ref b)] := by rw [e155, e0, e100]; exact hl
    refine ww_istore (pc := 291) (i := 5) g.1 (lv' := [(5, .int 0), (4, .int (Int32.ofNat (3072 - 6 * (k + 1)))), (3, .ref (q1.1 155 0)), (2, .ref (q1.1 0 0)), (1, .ref (q1.1 100 0)), (0, .ref b)]) d_law_law_291 hl (by decide) rfl fun ls hl => ?_
    exact rk_limit A hk hI hj (s := sB s1 155 0 0 v.toInt64) (Sum.inr v) (hq _ (Or.inr ⟨_, rfl⟩)) ⟨by dsimp only at r1 ⊢; omega, by dsimp only at r2 ⊢; omega⟩ hl
theorem lk_run {X : Cx} {b L : Nat} {f : Nat → Int32} (A : LA X b L f) {k : Nat} (hk : k < 512) (hI : LI X b k) (hj : 3072 - 6 * (k + 1) + 6 ≤ L) {q : PL} {s : S1} {n m : Nat × Nat} {ls : Array Slot} (hJ : Jt s n m (k + 1, 5 * k + 5)) (hr : Lr X q n m (k + 1)) (hl : lv_has ls 8 [(4, .int (Int32.ofNat (3072 - 6 * (k + 1)))), (3, .ref (q.1 155 0)), (2, .ref (q.1 0 0)), (1, .ref (q.1 100 0)), (0, .ref b)]) : WW X q s 308 ls [] := by
  obtain ⟨r1, r2⟩ := hr
  have g := A.1
  refine ww_aload_n (pc := 308) g.1 d_law_law_308 rfl (lv_at hl 3 rfl) ?_
  refine wl_arg A hl (j := 3072 - 6 * (k + 1)) 4 0 rfl rfl (c := 1) (by decide) (by omega) d_law_law_309 d_law_law_310 d_law_law_312 d_law_law_313 d_law_law_314 ?_
  refine ww_aload_n (pc := 315) g.1 d_law_law_315 rfl (lv_at hl 1 rfl) ?_
  refine ww_lo fun dlo => ?_
  obtain ⟨r, s1, hx, hq⟩ := ok_out (jp_run hJ (f (3072 - 6 * (k + 1) + 1)))
  obtain ⟨r, n1⟩ := r
  rcases r with kx | v
  · obtain ⟨hn1, hx2⟩ := run_thr hx
    have hq1 : ok (M_Mo_run (f (3072 - 6 * (k + 1) + 1))) s1 (fun _ w => Jt w n1 m (k + 1, 5 * k + 5) ∧ gB w 155 0 0 = gB s1 155 0 0) := hq _ (Or.inl rfl)
    rw [hn1] at hq1
    refine wl_cls (nA := 3) (pc := 316) (n0 := (n.1 + 1, n.2 + 6)) (n1 := ((n.1 + 1) - 1, (n.2 + 6) - 6)) (rest := []) (As := [.ref (q.1 100 0), .int (f (3072 - 6 * (k + 1) + 1)), .ref (q.1 155 0)]) A (m.1 + k, m.2 + 6 * k) ⟨kl_17, kl_1, k_law_run, by decide +kernel⟩ kl_18 (fun hm => wb_run A.2.1 hm ⟨by dsimp only; omega, by dsimp only; omega⟩ (hx2 _)) ⟨by dsimp only; omega, by dsimp only; omega⟩ ⟨by decide, by decide⟩ rfl hl.1 (Nat.le_of_ble_eq_true rfl) d_law_law_316 rfl (fun q1 hE hr1 => ?_)
    obtain ⟨r1, r2⟩ := hr1
    have e155 : q1.1 155 0 = q.1 155 0 := hE _ _ (by decide) (dlo _ _ (pz rfl (by decide)))
    have e0 : q1.1 0 0 = q.1 0 0 := hE _ _ (by decide) (dlo _ _ (pz rfl (by decide)))
    have e100 : q1.1 100 0 = q.1 100 0 := hE _ _ (by decide) (dlo _ _ (pz rfl (by decide)))
    have hl : lv_has ls 8 [(4, .int (Int32.ofNat (3072 - 6 * (k + 1)))), (3, .ref (q1.1 155 0)), (2, .ref (q1.1 0 0)), (1, .ref (q1.1 100 0)), (0, .ref b)] := by rw [e155, e0, e100]; exact hl
    refine ww_istore (pc := 319) (i := 5) g.1 (lv' := [(5, .int (cw_run kx)), (4, .int (Int32.ofNat (3072 - 6 * (k + 1)))), (3, .ref (q1.1 155 0)), (2, .ref (q1.1 0 0)), (1, .ref (q1.1 100 0)), (0, .ref b)]) d_law_law_319 hl (by decide) rfl fun ls hl => ?_
    exact rk_run A hk hI hj (s := s1) hq1 ⟨by dsimp only at r1 ⊢; omega, by dsimp only at r2 ⊢; omega⟩ hl
  · refine wl_cls (nA := 3) (pc := 316) (n0 := n) (n1 := n1) (rest := []) (As := [.ref (q.1 100 0), .int (f (3072 - 6 * (k + 1) + 1)), .ref (q.1 155 0)]) A (m.1 + (k + 1), m.2 + 6 * (k + 1)) ⟨kl_17, kl_1, k_law_run, by decide +kernel⟩ kl_18 (fun hm => wo_run hm hx) ⟨by dsimp only; omega, by dsimp only; omega⟩ ⟨by decide, by decide⟩ rfl hl.1 (Nat.le_of_ble_eq_true rfl) d_law_law_316 rfl (fun q1 hE hr1 => ?_)
    obtain ⟨r1, r2⟩ := hr1
    have e155 : q1.1 155 0 = q.1 155 0 := hE _ _ (by decide) (dlo _ _ (pz rfl (by decide)))
    have e0 : q1.1 0 0 = q.1 0 0 := hE _ _ (by decide) (dlo _ _ (pz rfl (by decide)))
    have e100 : q1.1 100 0 = q.1 100 0 := hE _ _ (by decide) (dlo _ _ (pz rfl (by decide)))
    have hl : lv_has ls 8 [(4, .int (Int32.ofNat (3072 - 6 * (k + 1)))), (3, .ref (q1.1 155 0)), (2, .ref (q1.1 0 0)), (1, .ref (q1.1 100 0)), (0, .ref b)] := by rw [e155, e0, e100]; exact hl
    refine ww_istore (pc := 319) (i := 5) g.1 (lv' := [(5, .int 0), (4, .int (Int32.ofNat (3072 - 6 * (k + 1)))), (3, .ref (q1.1 155 0)), (2, .ref (q1.1 0 0)), (1, .ref (q1.1 100 0)), (0, .ref b)]) d_law_law_319 hl (by decide) rfl fun ls hl => ?_
    exact rk_run A hk hI hj (s := sB s1 155 0 0 v.toInt64) (n := n1) (hq _ (Or.inr ⟨_, rfl⟩)) ⟨by dsimp only at r1 ⊢; omega, by dsimp only at r2 ⊢; omega⟩ hl
theorem lk_collect {X : Cx} {b L : Nat} {f : Nat → Int32} (A : LA X b L f) {k : Nat} (hk : k < 512) (hI : LI X b k) (hj : 3072 - 6 * (k + 1) + 6 ≤ L) {q : PL} {s : S1} {n m : Nat × Nat} {ls : Array Slot} (hJ : Jt s n m (k + 1, 5 * k + 5)) (hr : Lr X q n m (k + 1)) (hl : lv_has ls 8 [(4, .int (Int32.ofNat (3072 - 6 * (k + 1)))), (3, .ref (q.1 155 0)), (2, .ref (q.1 0 0)), (1, .ref (q.1 100 0)), (0, .ref b)]) : WW X q s 336 ls [] := by
  obtain ⟨r1, r2⟩ := hr
  have g := A.1
  refine ww_aload_n (pc := 336) g.1 d_law_law_336 rfl (lv_at hl 3 rfl) ?_
  refine ww_aload_n (pc := 337) g.1 d_law_law_337 rfl (lv_at hl 1 rfl) ?_
  refine ww_lo fun dlo => ?_
  obtain ⟨r, s1, hx, hq⟩ := ok_out (jp_collect hJ)
  rcases r with kx | v
  · refine wl_cls (nA := 2) (pc := 338) (n0 := (n.1 + 1, n.2 + 6)) (n1 := ((n.1 + 1) - 1, (n.2 + 6) - 6)) (rest := []) (As := [.ref (q.1 100 0), .ref (q.1 155 0)]) A (m.1 + k, m.2 + 6 * k) ⟨kl_20, kl_1, k_law_collect, by decide +kernel⟩ kl_21 (fun hm => wb_collect A.2.1 hm ⟨by dsimp only; omega, by dsimp only; omega⟩ hx) ⟨by dsimp only; omega, by dsimp only; omega⟩ ⟨by decide, by decide⟩ rfl hl.1 (Nat.le_of_ble_eq_true rfl) d_law_law_338 rfl (fun q1 hE hr1 => ?_)
    obtain ⟨r1, r2⟩ := hr1
    have e155 : q1.1 155 0 = q.1 155 0 := hE _ _ (by decide) (dlo _ _ (pz rfl (by decide)))
    have e0 : q1.1 0 0 = q.1 0 0 := hE _ _ (by decide) (dlo _ _ (pz rfl (by decide)))
    have e100 : q1.1 100 0 = q.1 100 0 := hE _ _ (by decide) (dlo _ _ (pz rfl (by decide)))
    have hl : lv_has ls 8 [(4, .int (Int32.ofNat (3072 - 6 * (k + 1)))), (3, .ref (q1.1 155 0)), (2, .ref (q1.1 0 0)), (1, .ref (q1.1 100 0)), (0, .ref b)] := by rw [e155, e0, e100]; exact hl
    refine ww_istore (pc := 341) (i := 5) g.1 (lv' := [(5, .int (cw_collect kx)), (4, .int (Int32.ofNat (3072 - 6 * (k + 1)))), (3, .ref (q1.1 155 0)), (2, .ref (q1.1 0 0)), (1, .ref (q1.1 100 0)), (0, .ref b)]) d_law_law_341 hl (by decide) rfl fun ls hl => ?_
    exact rk_collect A hk hI hj (s := s1) (hq _ (Or.inl rfl)) ⟨by dsimp only at r1 ⊢; omega, by dsimp only at r2 ⊢; omega⟩ hl
  · refine wl_cls (nA := 2) (pc := 338) (n0 := n) (n1 := n) (rest := []) (As := [.ref (q.1 100 0), .ref (q.1 155 0)]) A (m.1 + (k + 1), m.2 + 6 * (k + 1)) ⟨kl_20, kl_1, k_law_collect, by decide +kernel⟩ kl_21 (fun hm => wo_collect hm hx) ⟨by dsimp only; omega, by dsimp only; omega⟩ ⟨by decide, by decide⟩ rfl hl.1 (Nat.le_of_ble_eq_true rfl) d_law_law_338 rfl (fun q1 hE hr1 => ?_)
    obtain ⟨r1, r2⟩ := hr1
    have e155 : q1.1 155 0 = q.1 155 0 := hE _ _ (by decide) (dlo _ _ (pz rfl (by decide)))
    have e0 : q1.1 0 0 = q.1 0 0 := hE _ _ (by decide) (dlo _ _ (pz rfl (by decide)))
    have e100 : q1.1 100 0 = q.1 100 0 := hE _ _ (by decide) (dlo _ _ (pz rfl (by decide)))
    have hl : lv_has ls 8 [(4, .int (Int32.ofNat (3072 - 6 * (k + 1)))), (3, .ref (q1.1 155 0)), (2, .ref (q1.1 0 0)), (1, .ref (q1.1 100 0)), (0, .ref b)] := by rw [e155, e0, e100]; exact hl
    refine ww_istore (pc := 341) (i := 5) g.1 (lv' := [(5, .int 0), (4, .int (Int32.ofNat (3072 - 6 * (k + 1)))), (3, .ref (q1.1 155 0)), (2, .ref (q1.1 0 0)), (1, .ref (q1.1 100 0)), (0, .ref b)]) d_law_law_341 hl (by decide) rfl fun ls hl => ?_
    exact rk_collect A hk hI hj (s := sB s1 155 0 0 v.toInt64) (hq _ (Or.inr ⟨_, rfl⟩)) ⟨by dsimp only at r1 ⊢; omega, by dsimp only at r2 ⊢; omega⟩ hl
theorem lk_kind {X : Cx} {b L : Nat} {f : Nat → Int32} (A : LA X b L f) {k : Nat} (hk : k < 512) (hI : LI X b k) (hj : 3072 - 6 * (k + 1) + 6 ≤ L) {q : PL} {s : S1} {n m : Nat × Nat} {ls : Array Slot} (hJ : Jt s n m (k + 1, 5 * k + 5)) (hr : Lr X q n m (k + 1)) (hl : lv_has ls 8 [(4, .int (Int32.ofNat (3072 - 6 * (k + 1)))), (3, .ref (q.1 155 0)), (2, .ref (q.1 0 0)), (1, .ref (q.1 100 0)), (0, .ref b)]) : WW X q s 352 ls [] := by
  obtain ⟨r1, r2⟩ := hr
  have g := A.1
  refine ww_aload_n (pc := 352) g.1 d_law_law_352 rfl (lv_at hl 3 rfl) ?_
  refine wl_arg A hl (j := 3072 - 6 * (k + 1)) 4 0 rfl rfl (c := 1) (by decide) (by omega) d_law_law_353 d_law_law_354 d_law_law_356 d_law_law_357 d_law_law_358 ?_
  refine ww_aload_n (pc := 359) g.1 d_law_law_359 rfl (lv_at hl 1 rfl) ?_
  refine ww_lo fun dlo => ?_
  obtain ⟨r, s1, hx, hq⟩ := ok_out (jp_kind hJ (f (3072 - 6 * (k + 1) + 1)))
  rcases r with kx | v
  · refine wl_cls (nA := 3) (pc := 360) (n0 := (n.1 + 1, n.2 + 6)) (n1 := ((n.1 + 1) - 1, (n.2 + 6) - 6)) (rest := []) (As := [.ref (q.1 100 0), .int (f (3072 - 6 * (k + 1) + 1)), .ref (q.1 155 0)]) A (m.1 + k, m.2 + 6 * k) ⟨kl_23, kl_1, k_law_kind, by decide +kernel⟩ kl_24 (fun hm => wb_kind A.2.1 hm ⟨by dsimp only; omega, by dsimp only; omega⟩ hx) ⟨by dsimp only; omega, by dsimp only; omega⟩ ⟨by decide, by decide⟩ rfl hl.1 (Nat.le_of_ble_eq_true rfl) d_law_law_360 rfl (fun q1 hE hr1 => ?_)
    obtain ⟨r1, r2⟩ := hr1
    have e155 : q1.1 155 0 = q.1 155 0 := hE _ _ (by decide) (dlo _ _ (pz rfl (by decide)))
    have e0 : q1.1 0 0 = q.1 0 0 := hE _ _ (by decide) (dlo _ _ (pz rfl (by decide)))
    have e100 : q1.1 100 0 = q.1 100 0 := hE _ _ (by decide) (dlo _ _ (pz rfl (by decide)))
    have hl : lv_has ls 8 [(4, .int (Int32.ofNat (3072 - 6 * (k + 1)))), (3, .ref (q1.1 155 0)), (2, .ref (q1.1 0 0)), (1, .ref (q1.1 100 0)), (0, .ref b)] := by rw [e155, e0, e100]; exact hl
    refine ww_istore (pc := 363) (i := 5) g.1 (lv' := [(5, .int (cw_kind kx)), (4, .int (Int32.ofNat (3072 - 6 * (k + 1)))), (3, .ref (q1.1 155 0)), (2, .ref (q1.1 0 0)), (1, .ref (q1.1 100 0)), (0, .ref b)]) d_law_law_363 hl (by decide) rfl fun ls hl => ?_
    exact rk_kind A hk hI hj (s := s1) (hq _ (Or.inl rfl)) ⟨by dsimp only at r1 ⊢; omega, by dsimp only at r2 ⊢; omega⟩ hl
  · refine wl_cls (nA := 3) (pc := 360) (n0 := n) (n1 := n) (rest := []) (As := [.ref (q.1 100 0), .int (f (3072 - 6 * (k + 1) + 1)), .ref (q.1 155 0)]) A (m.1 + (k + 1), m.2 + 6 * (k + 1)) ⟨kl_23, kl_1, k_law_kind, by decide +kernel⟩ kl_24 (fun hm => wo_kind hm hx) ⟨by dsimp only; omega, by dsimp only; omega⟩ ⟨by decide, by decide⟩ rfl hl.1 (Nat.le_of_ble_eq_true rfl) d_law_law_360 rfl (fun q1 hE hr1 => ?_)
    obtain ⟨r1, r2⟩ := hr1
    have e155 : q1.1 155 0 = q.1 155 0 := hE _ _ (by decide) (dlo _ _ (pz rfl (by decide)))
    have e0 : q1.1 0 0 = q.1 0 0 := hE _ _ (by decide) (dlo _ _ (pz rfl (by decide)))
    have e100 : q1.1 100 0 = q.1 100 0 := hE _ _ (by decide) (dlo _ _ (pz rfl (by decide)))
    have hl : lv_has ls 8 [(4, .int (Int32.ofNat (3072 - 6 * (k + 1)))), (3, .ref (q1.1 155 0)), (2, .ref (q1.1 0 0)), (1, .ref (q1.1 100 0)), (0, .ref b)] := by rw [e155, e0, e100]; exact hl
    refine ww_istore (pc := 363) (i := 5) g.1 (lv' := [(5, .int 0), (4, .int (Int32.ofNat (3072 - 6 * (k + 1)))), (3, .ref (q1.1 155 0)), (2, .ref (q1.1 0 0)), (1, .ref (q1.1 100 0)), (0, .ref b)]) d_law_law_363 hl (by decide) rfl fun ls hl => ?_
    exact rk_kind A hk hI hj (s := sB s1 155 0 0 v.toInt64) (hq _ (Or.inr ⟨_, rfl⟩)) ⟨by dsimp only at r1 ⊢; omega, by dsimp only at r2 ⊢; omega⟩ hl
theorem lk_value {X : Cx} {b L : Nat} {f : Nat → Int32} (A : LA X b L f) {k : Nat} (hk : k < 512) (hI : LI X b k) (hj : 3072 - 6 * (k + 1) + 6 ≤ L) {q : PL} {s : S1} {n m : Nat × Nat} {ls : Array Slot} (hJ : Jt s n m (k + 1, 5 * k + 5)) (hr : Lr X q n m (k + 1)) (hl : lv_has ls 8 [(4, .int (Int32.ofNat (3072 - 6 * (k + 1)))), (3, .ref (q.1 155 0)), (2, .ref (q.1 0 0)), (1, .ref (q.1 100 0)), (0, .ref b)]) : WW X q s 380 ls [] := by
  obtain ⟨r1, r2⟩ := hr
  have g := A.1
  refine ww_aload_n (pc := 380) g.1 d_law_law_380 rfl (lv_at hl 3 rfl) ?_
  refine wl_arg A hl (j := 3072 - 6 * (k + 1)) 4 0 rfl rfl (c := 1) (by decide) (by omega) d_law_law_381 d_law_law_382 d_law_law_384 d_law_law_385 d_law_law_386 ?_
  refine ww_aload_n (pc := 387) g.1 d_law_law_387 rfl (lv_at hl 1 rfl) ?_
  refine ww_lo fun dlo => ?_
  obtain ⟨r, s1, hx, hq⟩ := ok_out (jp_value hJ (f (3072 - 6 * (k + 1) + 1)))
  rcases r with kx | v
  · refine wl_cls (nA := 3) (pc := 388) (n0 := (n.1 + 1, n.2 + 6)) (n1 := ((n.1 + 1) - 1, (n.2 + 6) - 6)) (rest := []) (As := [.ref (q.1 100 0), .int (f (3072 - 6 * (k + 1) + 1)), .ref (q.1 155 0)]) A (m.1 + k, m.2 + 6 * k) ⟨kl_26, kl_1, k_law_value, by decide +kernel⟩ kl_27 (fun hm => wb_value A.2.1 hm ⟨by dsimp only; omega, by dsimp only; omega⟩ hx) ⟨by dsimp only; omega, by dsimp only; omega⟩ ⟨by decide, by decide⟩ rfl hl.1 (Nat.le_of_ble_eq_true rfl) d_law_law_388 rfl (fun q1 hE hr1 => ?_)
    obtain ⟨r1, r2⟩ := hr1
    have e155 : q1.1 155 0 = q.1 155 0 := hE _ _ (by decide) (dlo _ _ (pz rfl (by decide)))
    have e0 : q1.1 0 0 = q.1 0 0 := hE _ _ (by decide) (dlo _ _ (pz rfl (by decide)))
    have e100 : q1.1 100 0 = q.1 100 0 := hE _ _ (by decide) (dlo _ _ (pz rfl (by decide)))
    have hl : lv_has ls 8 [(4, .int (Int32.ofNat (3072 - 6 * (k + 1)))), (3, .ref (q1.1 155 0)), (2, .ref (q1.1 0 0)), (1, .ref (q1.1 100 0)), (0, .ref b)] := by rw [e155, e0, e100]; exact hl
    refine ww_istore (pc := 391) (i := 5) g.1 (lv' := [(5, .int (cw_value kx)), (4, .int (Int32.ofNat (3072 - 6 * (k + 1)))), (3, .ref (q1.1 155 0)), (2, .ref (q1.1 0 0)), (1, .ref (q1.1 100 0)), (0, .ref b)]) d_law_law_391 hl (by decide) rfl fun ls hl => ?_
    exact rk_value A hk hI hj (s := s1) (hq _ (Or.inl rfl)) ⟨by dsimp only at r1 ⊢; omega, by dsimp only at r2 ⊢; omega⟩ hl
  · refine wl_cls (nA := 3) (pc := 388) (n0 := n) (n1 := n) (rest := []) (As := [.ref (q.1 100 0), .int (f (3072 - 6 * (k + 1) + 1)), .ref (q.1 155 0)]) A (m.1 + (k + 1), m.2 + 6 * (k + 1)) ⟨kl_26, kl_1, k_law_value, by decide +kernel⟩ kl_27 (fun hm => wo_value hm hx) ⟨by dsimp only; omega, by dsimp only; omega⟩ ⟨by decide, by decide⟩ rfl hl.1 (Nat.le_of_ble_eq_true rfl) d_law_law_388 rfl (fun q1 hE hr1 => ?_)
    obtain ⟨r1, r2⟩ := hr1
    have e155 : q1.1 155 0 = q.1 155 0 := hE _ _ (by decide) (dlo _ _ (pz rfl (by decide)))
    have e0 : q1.1 0 0 = q.1 0 0 := hE _ _ (by decide) (dlo _ _ (pz rfl (by decide)))
    have e100 : q1.1 100 0 = q.1 100 0 := hE _ _ (by decide) (dlo _ _ (pz rfl (by decide)))
    have hl : lv_has ls 8 [(4, .int (Int32.ofNat (3072 - 6 * (k + 1)))), (3, .ref (q1.1 155 0)), (2, .ref (q1.1 0 0)), (1, .ref (q1.1 100 0)), (0, .ref b)] := by rw [e155, e0, e100]; exact hl
    refine ww_istore (pc := 391) (i := 5) g.1 (lv' := [(5, .int 0), (4, .int (Int32.ofNat (3072 - 6 * (k + 1)))), (3, .ref (q1.1 155 0)), (2, .ref (q1.1 0 0)), (1, .ref (q1.1 100 0)), (0, .ref b)]) d_law_law_391 hl (by decide) rfl fun ls hl => ?_
    exact rk_value A hk hI hj (s := sB s1 155 0 0 v) (hq _ (Or.inr ⟨_, rfl⟩)) ⟨by dsimp only at r1 ⊢; omega, by dsimp only at r2 ⊢; omega⟩ hl
theorem lk_byteOf {X : Cx} {b L : Nat} {f : Nat → Int32} (A : LA X b L f) {k : Nat} (hk : k < 512) (hI : LI X b k) (hj : 3072 - 6 * (k + 1) + 6 ≤ L) {q : PL} {s : S1} {n m : Nat × Nat} {ls : Array Slot} (hJ : Jt s n m (k + 1, 5 * k + 5)) (hr : Lr X q n m (k + 1)) (hl : lv_has ls 8 [(4, .int (Int32.ofNat (3072 - 6 * (k + 1)))), (3, .ref (q.1 155 0)), (2, .ref (q.1 0 0)), (1, .ref (q.1 100 0)), (0, .ref b)]) : WW X q s 408 ls [] := by
  obtain ⟨r1, r2⟩ := hr
  have g := A.1
  refine ww_aload_n (pc := 408) g.1 d_law_law_408 rfl (lv_at hl 3 rfl) ?_
  refine wl_arg A hl (j := 3072 - 6 * (k + 1)) 4 0 rfl rfl (c := 1) (by decide) (by omega) d_law_law_409 d_law_law_410 d_law_law_412 d_law_law_413 d_law_law_414 ?_
  refine wl_arg A hl (j := 3072 - 6 * (k + 1)) 4 0 rfl rfl (c := 2) (by decide) (by omega) d_law_law_415 d_law_law_416 d_law_law_418 d_law_law_419 d_law_law_420 ?_
  refine ww_aload_n (pc := 421) g.1 d_law_law_421 rfl (lv_at hl 1 rfl) ?_
  refine ww_lo fun dlo => ?_
  obtain ⟨r, s1, hx, hq⟩ := ok_out (jp_byteOf hJ (f (3072 - 6 * (k + 1) + 1)) (f (3072 - 6 * (k + 1) + 2)))
  rcases r with kx | v
  · refine wl_cls (nA := 4) (pc := 422) (n0 := (n.1 + 1, n.2 + 6)) (n1 := ((n.1 + 1) - 1, (n.2 + 6) - 6)) (rest := []) (As := [.ref (q.1 100 0), .int (f (3072 - 6 * (k + 1) + 1)), .int (f (3072 - 6 * (k + 1) + 2)), .ref (q.1 155 0)]) A (m.1 + k, m.2 + 6 * k) ⟨kl_29, kl_1, k_law_byteOf, by decide +kernel⟩ kl_30 (fun hm => wb_byteOf A.2.1 hm ⟨by dsimp only; omega, by dsimp only; omega⟩ hx) ⟨by dsimp only; omega, by dsimp only; omega⟩ ⟨by decide, by decide⟩ rfl hl.1 (Nat.le_of_ble_eq_true rfl) d_law_law_422 rfl (fun q1 hE hr1 => ?_)
    obtain ⟨r1, r2⟩ := hr1
    have e155 : q1.1 155 0 = q.1 155 0 := hE _ _ (by decide) (dlo _ _ (pz rfl (by decide)))
    have e0 : q1.1 0 0 = q.1 0 0 := hE _ _ (by decide) (dlo _ _ (pz rfl (by decide)))
    have e100 : q1.1 100 0 = q.1 100 0 := hE _ _ (by decide) (dlo _ _ (pz rfl (by decide)))
    have hl : lv_has ls 8 [(4, .int (Int32.ofNat (3072 - 6 * (k + 1)))), (3, .ref (q1.1 155 0)), (2, .ref (q1.1 0 0)), (1, .ref (q1.1 100 0)), (0, .ref b)] := by rw [e155, e0, e100]; exact hl
    refine ww_istore (pc := 425) (i := 5) g.1 (lv' := [(5, .int (cw_byteOf kx)), (4, .int (Int32.ofNat (3072 - 6 * (k + 1)))), (3, .ref (q1.1 155 0)), (2, .ref (q1.1 0 0)), (1, .ref (q1.1 100 0)), (0, .ref b)]) d_law_law_425 hl (by decide) rfl fun ls hl => ?_
    exact rk_byteOf A hk hI hj (s := s1) (hq _ (Or.inl rfl)) ⟨by dsimp only at r1 ⊢; omega, by dsimp only at r2 ⊢; omega⟩ hl
  · refine wl_cls (nA := 4) (pc := 422) (n0 := n) (n1 := n) (rest := []) (As := [.ref (q.1 100 0), .int (f (3072 - 6 * (k + 1) + 1)), .int (f (3072 - 6 * (k + 1) + 2)), .ref (q.1 155 0)]) A (m.1 + (k + 1), m.2 + 6 * (k + 1)) ⟨kl_29, kl_1, k_law_byteOf, by decide +kernel⟩ kl_30 (fun hm => wo_byteOf hm hx) ⟨by dsimp only; omega, by dsimp only; omega⟩ ⟨by decide, by decide⟩ rfl hl.1 (Nat.le_of_ble_eq_true rfl) d_law_law_422 rfl (fun q1 hE hr1 => ?_)
    obtain ⟨r1, r2⟩ := hr1
    have e155 : q1.1 155 0 = q.1 155 0 := hE _ _ (by decide) (dlo _ _ (pz rfl (by decide)))
    have e0 : q1.1 0 0 = q.1 0 0 := hE _ _ (by decide) (dlo _ _ (pz rfl (by decide)))
    have e100 : q1.1 100 0 = q.1 100 0 := hE _ _ (by decide) (dlo _ _ (pz rfl (by decide)))
    have hl : lv_has ls 8 [(4, .int (Int32.ofNat (3072 - 6 * (k + 1)))), (3, .ref (q1.1 155 0)), (2, .ref (q1.1 0 0)), (1, .ref (q1.1 100 0)), (0, .ref b)] := by rw [e155, e0, e100]; exact hl
    refine ww_istore (pc := 425) (i := 5) g.1 (lv' := [(5, .int 0), (4, .int (Int32.ofNat (3072 - 6 * (k + 1)))), (3, .ref (q1.1 155 0)), (2, .ref (q1.1 0 0)), (1, .ref (q1.1 100 0)), (0, .ref b)]) d_law_law_425 hl (by decide) rfl fun ls hl => ?_
    exact rk_byteOf A hk hI hj (s := sB s1 155 0 0 v.toInt64) (hq _ (Or.inr ⟨_, rfl⟩)) ⟨by dsimp only at r1 ⊢; omega, by dsimp only at r2 ⊢; omega⟩ hl
theorem lk_output {X : Cx} {b L : Nat} {f : Nat → Int32} (A : LA X b L f) {k : Nat} (hk : k < 512) (hI : LI X b k) (hj : 3072 - 6 * (k + 1) + 6 ≤ L) {q : PL} {s : S1} {n m : Nat × Nat} {ls : Array Slot} (hJ : Jt s n m (k + 1, 5 * k + 5)) (hr : Lr X q n m (k + 1)) (hl : lv_has ls 8 [(4, .int (Int32.ofNat (3072 - 6 * (k + 1)))), (3, .ref (q.1 155 0)), (2, .ref (q.1 0 0)), (1, .ref (q.1 100 0)), (0, .ref b)]) : WW X q s 448 ls [] := by
  obtain ⟨r1, r2⟩ := hr
  have g := A.1
  refine ww_aload_n (pc := 448) g.1 d_law_law_448 rfl (lv_at hl 3 rfl) ?_
  refine wl_arg A hl (j := 3072 - 6 * (k + 1)) 4 0 rfl rfl (c := 1) (by decide) (by omega) d_law_law_449 d_law_law_450 d_law_law_452 d_law_law_453 d_law_law_454 ?_
  refine ww_aload_n (pc := 455) g.1 d_law_law_455 rfl (lv_at hl 1 rfl) ?_
  refine ww_lo fun dlo => ?_
  obtain ⟨r, s1, hx, hq⟩ := ok_out (jp_output hJ (f (3072 - 6 * (k + 1) + 1)))
  rcases r with kx | v
  · refine wl_cls (nA := 3) (pc := 456) (n0 := (n.1 + 1, n.2 + 6)) (n1 := ((n.1 + 1) - 1, (n.2 + 6) - 6)) (rest := []) (As := [.ref (q.1 100 0), .int (f (3072 - 6 * (k + 1) + 1)), .ref (q.1 155 0)]) A (m.1 + k, m.2 + 6 * k) ⟨kl_32, kl_1, k_law_output, by decide +kernel⟩ kl_33 (fun hm => wb_output A.2.1 hm ⟨by dsimp only; omega, by dsimp only; omega⟩ hx) ⟨by dsimp only; omega, by dsimp only; omega⟩ ⟨by decide, by decide⟩ rfl hl.1 (Nat.le_of_ble_eq_true rfl) d_law_law_456 rfl (fun q1 hE hr1 => ?_)
    obtain ⟨r1, r2⟩ := hr1
    have e155 : q1.1 155 0 = q.1 155 0 := hE _ _ (by decide) (dlo _ _ (pz rfl (by decide)))
    have e0 : q1.1 0 0 = q.1 0 0 := hE _ _ (by decide) (dlo _ _ (pz rfl (by decide)))
    have e100 : q1.1 100 0 = q.1 100 0 := hE _ _ (by decide) (dlo _ _ (pz rfl (by decide)))
    have hl : lv_has ls 8 [(4, .int (Int32.ofNat (3072 - 6 * (k + 1)))), (3, .ref (q1.1 155 0)), (2, .ref (q1.1 0 0)), (1, .ref (q1.1 100 0)), (0, .ref b)] := by rw [e155, e0, e100]; exact hl
    refine ww_istore (pc := 459) (i := 5) g.1 (lv' := [(5, .int (cw_output kx)), (4, .int (Int32.ofNat (3072 - 6 * (k + 1)))), (3, .ref (q1.1 155 0)), (2, .ref (q1.1 0 0)), (1, .ref (q1.1 100 0)), (0, .ref b)]) d_law_law_459 hl (by decide) rfl fun ls hl => ?_
    exact rk_output A hk hI hj (s := s1) (hq _ (Or.inl rfl)) ⟨by dsimp only at r1 ⊢; omega, by dsimp only at r2 ⊢; omega⟩ hl
  · refine wl_cls (nA := 3) (pc := 456) (n0 := n) (n1 := n) (rest := []) (As := [.ref (q.1 100 0), .int (f (3072 - 6 * (k + 1) + 1)), .ref (q.1 155 0)]) A (m.1 + (k + 1), m.2 + 6 * (k + 1)) ⟨kl_32, kl_1, k_law_output, by decide +kernel⟩ kl_33 (fun hm => wo_output hm hx) ⟨by dsimp only; omega, by dsimp only; omega⟩ ⟨by decide, by decide⟩ rfl hl.1 (Nat.le_of_ble_eq_true rfl) d_law_law_456 rfl (fun q1 hE hr1 => ?_)
    obtain ⟨r1, r2⟩ := hr1
    have e155 : q1.1 155 0 = q.1 155 0 := hE _ _ (by decide) (dlo _ _ (pz rfl (by decide)))
    have e0 : q1.1 0 0 = q.1 0 0 := hE _ _ (by decide) (dlo _ _ (pz rfl (by decide)))
    have e100 : q1.1 100 0 = q.1 100 0 := hE _ _ (by decide) (dlo _ _ (pz rfl (by decide)))
    have hl : lv_has ls 8 [(4, .int (Int32.ofNat (3072 - 6 * (k + 1)))), (3, .ref (q1.1 155 0)), (2, .ref (q1.1 0 0)), (1, .ref (q1.1 100 0)), (0, .ref b)] := by rw [e155, e0, e100]; exact hl
    refine ww_istore (pc := 459) (i := 5) g.1 (lv' := [(5, .int 0), (4, .int (Int32.ofNat (3072 - 6 * (k + 1)))), (3, .ref (q1.1 155 0)), (2, .ref (q1.1 0 0)), (1, .ref (q1.1 100 0)), (0, .ref b)]) d_law_law_459 hl (by decide) rfl fun ls hl => ?_
    exact rk_output A hk hI hj (s := sB s1 155 0 0 v.toInt64) (hq _ (Or.inr ⟨_, rfl⟩)) ⟨by dsimp only at r1 ⊢; omega, by dsimp only at r2 ⊢; omega⟩ hl
theorem lk_count {X : Cx} {b L : Nat} {f : Nat → Int32} (A : LA X b L f) {k : Nat} (hk : k < 512) (hI : LI X b k) (hj : 3072 - 6 * (k + 1) + 6 ≤ L) {q : PL} {s : S1} {n m : Nat × Nat} {ls : Array Slot} (hJ : Jt s n m (k + 1, 5 * k + 5)) (hr : Lr X q n m (k + 1)) (hl : lv_has ls 8 [(4, .int (Int32.ofNat (3072 - 6 * (k + 1)))), (3, .ref (q.1 155 0)), (2, .ref (q.1 0 0)), (1, .ref (q.1 100 0)), (0, .ref b)]) : WW X q s 476 ls [] := by
  obtain ⟨r1, r2⟩ := hr
  have g := A.1
  refine ww_aload_n (pc := 476) g.1 d_law_law_476 rfl (lv_at hl 3 rfl) ?_
  refine wl_arg A hl (j := 3072 - 6 * (k + 1)) 4 0 rfl rfl (c := 1) (by decide) (by omega) d_law_law_477 d_law_law_478 d_law_law_480 d_law_law_481 d_law_law_482 ?_
  refine ww_lo fun dlo => ?_
  obtain ⟨v, s1, hv, hq⟩ := ok_out (jp_count hJ (f (3072 - 6 * (k + 1) + 1)))
  refine wl_ref (pc := 483) (n0 := n) (rest := []) (As := [.int (f (3072 - 6 * (k + 1) + 1))]) A (m.1 + (k + 1), m.2 + 6 * (k + 1)) cv_LM_count kl_35 cl_LM (pz rfl (by decide)) (fun hm => ct_ctX (ct_LM_count hv) hm) ⟨by dsimp only; omega, by dsimp only; omega⟩ ⟨by decide, by decide⟩ rfl hl.1 (Nat.le_of_ble_eq_true rfl) d_law_law_483 rfl (fun q1 hE hr1 => ?_)
  obtain ⟨r1, r2⟩ := hr1
  have e155 : q1.1 155 0 = q.1 155 0 := hE _ _ (by decide) (dlo _ _ (pz rfl (by decide)))
  have e0 : q1.1 0 0 = q.1 0 0 := hE _ _ (by decide) (dlo _ _ (pz rfl (by decide)))
  have e100 : q1.1 100 0 = q.1 100 0 := hE _ _ (by decide) (dlo _ _ (pz rfl (by decide)))
  have hl : lv_has ls 8 [(4, .int (Int32.ofNat (3072 - 6 * (k + 1)))), (3, .ref (q1.1 155 0)), (2, .ref (q1.1 0 0)), (1, .ref (q1.1 100 0)), (0, .ref b)] := by rw [e155, e0, e100]; exact hl
  refine ww_st (st' := [.int v]) rfl ?_
  refine ww_pop (pc := 486) g.1 d_law_law_486 rfl ?_
  exact rk_count A hk hI hj (hq _ (Or.inl rfl)) ⟨by dsimp only at r1; omega, by dsimp only at r2; omega⟩ hl
