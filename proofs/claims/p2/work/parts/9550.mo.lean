theorem tail_Mo {X : Cx} {q0 q : PL} {ls : Array Slot} {a0 : Nat} {m : Nat × Nat} (g : Gd X y_Mo_init b_Mo_init 2 none 4 81 R_Mo) (hR : RtN X q0 105 m 1772) (hkp : Kpp 105 q0 q) (e0 : q.1 0 0 = a0) (hm : Rnn (xP X) q (m.1 + 0, m.2 + 0)) (hl : lv_has ls 2 [(1, .int 33), (0, .ref a0)]) : WN X q 1771 1122 ls [] := by
  refine nn_aload_n (pc := 1122) g.1 d_Mo_init_1122 rfl (lv_at hl 1 rfl) ?_
  refine nn_sipush (pc := 1123) g.1 (v := 1000) d_Mo_init_1123 (by decide) ?_
  refine nn_put (pc := 1126) (r := 0) (k := 32) (n' := 1772) g cl_Mo ⟨⟨rfl, by decide, by decide⟩, by decide +kernel⟩ (by decide) (Or.inl kn_164) (Or.inl rfl) e0 rfl rfl (Or.inl ⟨(by decide +kernel), rfl, (fvI rfl rfl)⟩) d_Mo_init_1126 ?_
  exact nn_ret (pc := 1129) g hR hkp (hm.le (by dsimp only; omega) (by dsimp only; omega)) d_Mo_init_1129
theorem loop_Mo {X : Cx} {q0 q : PL} {a0 a76 : Nat} {m : Nat × Nat} (g : Gd X y_Mo_init b_Mo_init 2 none 4 81 R_Mo) (hR : RtN X q0 105 m 1772) (hkp : Kpp 105 q0 q) (e0 : q.1 0 0 = a0) (e76 : q.1 76 0 = a76) (hm : Rnn (xP X) q (m.1 + 726, m.2 + 527406)) (ls : Array Slot) (hl : lv_has ls 2 [(1, .int 0), (0, .ref a0)]) : WN X q 286 1097 ls [] := by
  have go : ∀ (k : Nat) (t : Int32) (q : PL) (ls : Array Slot), k = 33 - t.toNatClampNeg → 0 ≤ t → t.toNatClampNeg ≤ 33 → Kpp 105 q0 q → q.1 0 0 = a0 → q.1 76 0 = a76 → Rnn (xP X) q (m.1 + 22 * (33 - t.toNatClampNeg), m.2 + 15982 * (33 - t.toNatClampNeg)) → lv_has ls 2 [(1, .int t), (0, .ref a0)] → WN X q (286 + t.toNatClampNeg * 45) 1097 ls [] := by
    intro k
    induction k with
    | zero =>
      intro t q ls hk0 t0 t33 hkp e0 e76 hm hl
      have et33 : t.toNatClampNeg = 33 := by omega
      have e33 : t = 33 := clamp_ij t0 (by decide) (by rw [et33]; decide)
      subst e33
      refine nn_iload_n (pc := 1097) g.1 d_Mo_init_1097 rfl (lv_at hl 0 rfl) ?_
      refine nn_bipush (pc := 1098) g.1 (v := 33) d_Mo_init_1098 (by decide) ?_
      refine nn_icmp_ge (pc := 1100) (tgt := 1122) g.1 d_Mo_init_1100 (by decide) (fun c => ?_) (fun c => absurd (Int32.le_refl _) c)
      exact tail_Mo g hR hkp e0 (hm.le (by dsimp only; omega) (by dsimp only; omega)) hl
    | succ k ih =>
      intro t q ls hk0 t0 t33 hkp e0 e76 hm hl
      have ht : 0 ≤ t ∧ t.toNatClampNeg < 33 := ⟨t0, by omega⟩
      have ht33 : t < 33 := by
        rw [Int32.lt_iff_toInt_lt]
        have a1 : t.toNatClampNeg = t.toInt.toNat := rfl
        have a2 : (33 : Int32).toInt = 33 := rfl
        have a3 : (0 : Int) ≤ t.toInt := by simpa using Int32.le_iff_toInt_le.mp t0
        omega
      have tp : (t + 1).toNatClampNeg = t.toNatClampNeg + 1 ∧ 0 ≤ t + 1 := tp_ok t ht
      refine nn_iload_n (pc := 1097) g.1 d_Mo_init_1097 rfl (lv_at hl 0 rfl) ?_
      refine nn_bipush (pc := 1098) g.1 (v := 33) d_Mo_init_1098 (by decide) ?_
      refine nn_icmp_ge (pc := 1100) (tgt := 1122) g.1 d_Mo_init_1100 (by decide) (fun c => absurd c (Int32.not_le.mpr ht33)) (fun c => ?_)
      refine nn_aload_n (pc := 1103) g.1 d_Mo_init_1103 rfl (lv_at hl 1 rfl) ?_
      refine nn_get (pc := 1104) (r := 0) (k := 71) (t := 76) g cl_Mo ⟨⟨rfl, by decide, by decide⟩, by rw [show eo 127 0 = 104 by decide +kernel]; omega⟩ (by decide) (Or.inl kn_206) e0 (by rw [show eo 71 0 = 183 by decide +kernel]; omega) rfl rfl e76 d_Mo_init_1104 ?_
      refine nn_iload_n (pc := 1107) g.1 d_Mo_init_1107 rfl (lv_at hl 0 rfl) ?_
      refine nn_new (pc := 1108) (r := 28) (i := t) (m := (m.1 + (22 * (32 - t.toNatClampNeg) + 21), m.2 + (15982 * (32 - t.toNatClampNeg) + 15960))) g.gn cl_Th (by unfold dvC; decide +kernel) ⟨rfl, ht.1, ht.2⟩ (Eq.trans (et (t := t) (f := 3711) (v := 286) (Or.inl ⟨by decide, by decide⟩) (by decide +kernel) (by decide)) (by omega)) (hm.le (by dsimp only; omega) (by have z : nfF 28 = 22 := rfl; dsimp only; omega)) kn_205 kn_237 kn_238 d_Mo_init_1108 fun q1108 a28 hk e28 hm => ?_
      have e0 : q1108.1 0 0 = a0 := (hk 0 0 ⟨⟨rfl, by decide, by decide⟩, by rw [show eo 127 0 = 104 by decide +kernel]; omega⟩).trans e0
      have e76 : q1108.1 76 0 = a76 := (hk 76 0 ⟨⟨rfl, by decide, by decide⟩, by rw [show eo 9855 0 = 182 by decide +kernel]; omega⟩).trans e76
      have hkp := hkp.tr hk (by omega)
      refine nn_dup (pc := 1111) g.1 d_Mo_init_1111 rfl ?_
      refine nn_n (n' := (287 + t.toNatClampNeg * 45)) (by omega) ?_
      refine nn_call (pc := 1112) (rest := [.ref a28, .int t, .ref a76]) (m := (m.1 + 22 * (32 - t.toNatClampNeg), m.2 + 15982 * (32 - t.toNatClampNeg))) (As := []) g.gn ci_Th_init (Or.inr ⟨"LuaMachineModel", kxn_8⟩) (cn_Th_28 ht (hm.le (by dsimp only; omega) (by dsimp only; omega)) e28) (hm.le (by dsimp only; omega) (by dsimp only; omega)) ⟨by decide, by decide⟩ rfl hl.1 (Nat.le_of_ble_eq_true rfl) d_Mo_init_1112 rfl fun q1112 hk hm => ?_
      have e0 : q1112.1 0 0 = a0 := (hk 0 0 ⟨⟨rfl, by decide, by decide⟩, by rw [show eo 127 0 = 104 by decide +kernel]; omega⟩).trans e0
      have e76 : q1112.1 76 0 = a76 := (hk 76 0 ⟨⟨rfl, by decide, by decide⟩, by rw [show eo 9855 0 = 182 by decide +kernel]; omega⟩).trans e76
      have e28 : q1112.1 28 t = a28 := (hk 28 t ⟨⟨rfl, ht.1, ht.2⟩, by rw [et (Or.inl ⟨by decide, by decide⟩) (show eoF 3711 = 286 by decide +kernel) (by decide)]; omega⟩).trans e28
      have hkp := hkp.tr hk (by omega)
      refine nn_aast (pc := 1115) (r := 76) (f := 200000) (fi := t) g.gn ⟨⟨rfl, by decide, by decide⟩, by rw [show eo 9855 0 = 182 by decide +kernel]; omega⟩ e76 (by decide) (fun H locs hW _ => by have z := any_T g.gn ⟨⟨rfl, ht.1, ht.2⟩, by rw [et (Or.inl ⟨by decide, by decide⟩) (show eoF 3711 = 286 by decide +kernel) (by decide)]; omega⟩ H locs hW; rw [e28] at z; exact z) (j := t.toNatClampNeg) rfl ht.1 ht.2 (Or.inr ⟨rfl, rfl, (i_of_clamp ht.1).symm, by rw [i_of_clamp ht.1, e28], ht.2⟩) (Eq.trans (et (t := t) (f := 200000) (v := 330) (Or.inr rfl) (by decide +kernel) (by decide)) (by omega)) d_Mo_init_1115 ?_
      refine nn_iinc (pc := 1116) (lv' := [(1, .int (t + 1)), (0, .ref a0)]) g.1 d_Mo_init_1116 hl (k1 := 0) rfl rfl (by decide) rfl fun ls hl => ?_
      refine nn_goto (pc := 1119) (tgt := 1097) g.1 d_Mo_init_1119 (by decide) ?_
      have z := ih (t + 1) _ ls (by rw [tp.1]; omega) tp.2 (by rw [tp.1]; omega) hkp e0 e76 (hm.le (by rw [tp.1]; dsimp only; omega) (by rw [tp.1]; dsimp only; omega)) hl
      rw [tp.1, show 286 + (t.toNatClampNeg + 1) * 45 = 330 + t.toNatClampNeg * 45 + 1 by omega] at z
      exact z
  have z := go 33 0 q ls (by decide) (by decide) (by decide) hkp e0 e76 (hm.le (by show _ ≤ _; omega) (by show _ ≤ _; omega)) hl
  exact z
theorem mo_s12 {X : Cx} {q0 q : PL} {ls : Array Slot} {a0 : Nat} {m : Nat × Nat} (g : Gd X y_Mo_init b_Mo_init 2 none 4 81 R_Mo) (hnm : (xh X).name = "<init>") (hR : RtN X q0 105 m 1772) (hkp : Kpp 105 q0 q) (e0 : q.1 0 0 = a0) (hm : Rnn (xP X) q (m.1 + 727, m.2 + 527430)) (hl : lv_has ls 2 [(0, .ref a0)]) : WN X q 284 1077 ls [] := by
  refine nn_aload_n (pc := 1077) g.1 d_Mo_init_1077 rfl (lv_at hl 0 rfl) ?_
  refine nn_bipush (pc := 1078) g.1 (v := 24) d_Mo_init_1078 (by decide) ?_
  refine nn_arr (pc := 1080) (r := 89) (i := 0) (N := 24) (at0 := .byte) (m := (m.1 + 726, m.2 + 527406)) g.gn rfl (by decide) ⟨rfl, by decide, by decide⟩ (by decide +kernel) (by decide) rfl (by decide) (by decide) (hm.le (by dsimp only; omega) (by dsimp only; omega)) kn_12 d_Mo_init_1080 fun q1080 a89 hk e89 hm => ?_
  have e0 : q1080.1 0 0 = a0 := (hk 0 0 ⟨⟨rfl, by decide, by decide⟩, by decide +kernel⟩).trans e0
  have hkp := hkp.tr hk (by decide)
  refine nn_put (pc := 1082) (r := 0) (k := 97) (n' := 286) g cl_Mo ⟨⟨rfl, by decide, by decide⟩, by decide +kernel⟩ (by decide) (Or.inl kn_234) (Or.inr ⟨rfl, hnm, rfl, kn_234⟩) e0 rfl rfl (Or.inl ⟨(by decide +kernel), rfl, (fvR rfl rfl e89)⟩) d_Mo_init_1082 ?_
  refine nn_aload_n (pc := 1085) g.1 d_Mo_init_1085 rfl (lv_at hl 0 rfl) ?_
  refine nn_iconst (pc := 1086) g.1 (v := 0) d_Mo_init_1086 (by decide) ?_
  refine nn_put (pc := 1087) (r := 0) (k := 98) (n' := 286) g cl_Mo ⟨⟨rfl, by decide, by decide⟩, by decide +kernel⟩ (by decide) (Or.inl kn_235) (Or.inl rfl) e0 rfl rfl (Or.inr ⟨rfl, fN_dv (Or.inr ⟨by decide +kernel, (by decide), (fvI rfl rfl)⟩)⟩) d_Mo_init_1087 ?_
  refine nn_aload_n (pc := 1090) g.1 d_Mo_init_1090 rfl (lv_at hl 0 rfl) ?_
  refine nn_lconst (pc := 1091) g.1 (v := 0) d_Mo_init_1091 (by decide) ?_
  refine nn_put (pc := 1092) (r := 0) (k := 99) (n' := 286) g cl_Mo ⟨⟨rfl, by decide, by decide⟩, by decide +kernel⟩ (by decide) (Or.inl kn_236) (Or.inl rfl) e0 rfl rfl (Or.inr ⟨rfl, fN_dv (Or.inr ⟨by decide +kernel, (by decide), rfl⟩)⟩) d_Mo_init_1092 ?_
  refine nn_iconst (pc := 1095) g.1 (v := 0) d_Mo_init_1095 (by decide) ?_
  obtain ⟨a76, e76⟩ : ∃ a, q1080.1 76 0 = a := ⟨_, rfl⟩
  refine nn_istore_n (pc := 1096) (j := 1) g.1 (lv' := [(1, .int 0), (0, .ref a0)]) d_Mo_init_1096 rfl hl (by decide) rfl fun ls hl => ?_
  refine loop_Mo g hR hkp e0 e76 hm ls hl
