
set_option maxHeartbeats 4000000 in
set_option maxRecDepth 100000 in
theorem whole_start {p : Program} {e : Env} {s : State} {m : MethodId} {below : List Frame} {meth : Method} {c : Code} (l : Launch) (hst : l.stackTraces = false) {b L : Nat} {xs : Nat → Int32} (hL : L ≤ 6) (C0 : lw_At p s m meth c b L xs) : W p l e room_1 s m #[Value.ref b] below meth c s.heap [] 0 0 (lw_Z below #[Value.ref b] s) (entryFrame m ([Value.ref b] : List Value).toArray 8) := by
  obtain ⟨hx, hb, hr, hml, hown, hts0, hX, hbl, hlocks, hgv⟩ := id C0
  have hts : ∀ w ∈ w_law_law, w.before #[Value.ref b] s = true := fun w h => (List.mem_cons.mp h).elim (fun e => by rw [e]; rfl) (fun h => hts0 w (List.mem_filter.mp h).1)
  have htb : ∀ w ∈ tables_1, w.before #[Value.ref b] s = true := fun w h => hts0 w (List.mem_append_right _ h)
  have hgl : ∀ w ∈ xGiven, w.before #[Value.ref b] s = true := flat_of_before _ hgv
  obtain ⟨A, hA, hA2⟩ : ∃ A : Nat → Prop, (∀ q : Nat, s.heap.size ≤ q → A q) ∧ ∀ q : Nat, A q → s.heap.size ≤ q := ⟨fun q => s.heap.size ≤ q, fun _ h => h, fun _ h => h⟩
  have hA3 : ∀ a : Nat, a < s.heap.size → ¬ A a := fun a h z => absurd (hA2 a z) (Nat.not_le.mpr h)
  have hbA : ¬ A b := hA3 b hbl
  have hB : xB s := xB_of htb
  have hZ : xZ A s s.heap := xZ_of htb hgl hA3
  have hNc : va_Nc "java/lang/IllegalStateException" "java/lang/IllegalArgumentException" s := va_Nc.of (hgl _ xg_c)
  obtain ⟨ad, hT⟩ := xK_of htb hgl hA3
  obtain ⟨c0, iS0, hKn0⟩ := u_known (C := R_LM) (T := TLM) (N := 7) (n := 7) hts (fun w h => List.mem_cons_of_mem _ (ic_LM w h)) (hts (.instantiable R_LM 7) (List.mem_cons_of_mem _ kw_392))
  obtain ⟨c1, iS1, hKn1⟩ := u_known (C := R_Ch) (T := TCh) (N := 17) (n := 17) hts (fun w h => List.mem_cons_of_mem _ (ic_Ch w h)) (hts (.instantiable R_Ch 17) (List.mem_cons_of_mem _ kw_80))
  obtain ⟨c2, iS2, hKn2⟩ := u_known (C := R_He) (T := THe) (N := 16) (n := 16) hts (fun w h => List.mem_cons_of_mem _ (ic_He w h)) (hts (.instantiable R_He 16) (List.mem_cons_of_mem _ kw_86))
  obtain ⟨c3, iS3, hKn3⟩ := u_known (C := R_Ta) (T := TTa) (N := 9) (n := 9) hts (fun w h => List.mem_cons_of_mem _ (ic_Ta w h)) (hts (.instantiable R_Ta 9) (List.mem_cons_of_mem _ kw_92))
  obtain ⟨c4, iS4, hKn4⟩ := u_known (C := R_Ma) (T := TMa) (N := 18) (n := 18) hts (fun w h => List.mem_cons_of_mem _ (ic_Ma w h)) (hts (.instantiable R_Ma 18) (List.mem_cons_of_mem _ kw_97))
  obtain ⟨c5, iS5, hKn5⟩ := u_known (C := R_St) (T := TSt) (N := 13) (n := 13) hts (fun w h => List.mem_cons_of_mem _ (ic_St w h)) (hts (.instantiable R_St 13) (List.mem_cons_of_mem _ kw_105))
  obtain ⟨c6, iS6, hKn6⟩ := u_known (C := R_Bu) (T := TBu) (N := 7) (n := 7) hts (fun w h => List.mem_cons_of_mem _ (ic_Bu w h)) (hts (.instantiable R_Bu 7) (List.mem_cons_of_mem _ kw_111))
  obtain ⟨c7, iS7, hKn7⟩ := u_known (C := R_Ro) (T := TRo) (N := 3) (n := 3) hts (fun w h => List.mem_cons_of_mem _ (ic_Ro w h)) (hts (.instantiable R_Ro 3) (List.mem_cons_of_mem _ kw_48))
  obtain ⟨c8, iS8, hKn8⟩ := u_known (C := R_Pr) (T := TPr) (N := 13) (n := 13) hts (fun w h => List.mem_cons_of_mem _ (ic_Pr w h)) (hts (.instantiable R_Pr 13) (List.mem_cons_of_mem _ kw_159))
  obtain ⟨c9, iS9, hKn9⟩ := u_known (C := R_Mo) (T := TMo) (N := 100) (n := 100) hts (fun w h => List.mem_cons_of_mem _ (ic_Mo w h)) (hts (.instantiable R_Mo 100) (List.mem_cons_of_mem _ kw_396))
  obtain ⟨c10, iS10, hKn10⟩ := u_known (C := R_Va) (T := TVa) (N := 3) (n := 3) hts (fun w h => List.mem_cons_of_mem _ (ic_Va w h)) (hts (.instantiable R_Va 3) (List.mem_cons_of_mem _ kw_195))
  obtain ⟨c11, iS11, hKn11⟩ := u_known (C := R_Th) (T := TTh) (N := 22) (n := 22) hts (fun w h => List.mem_cons_of_mem _ (ic_Th w h)) (hts (.instantiable R_Th 22) (List.mem_cons_of_mem _ kw_387))
  obtain ⟨dC, dI, hKc⟩ : ∃ (dC : Nat → ClassId) (dI : Nat → Nat → Nat), ∀ (k : Nat) (q : vw_C), vwCl[k]? = some q → u_Kn s q.1 q.2.1 q.2.2 (dC k) (dI k) := by
    refine ⟨fun k => if k = 0 then c0 else if k = 1 then c1 else if k = 2 then c2 else if k = 3 then c3 else if k = 4 then c4 else if k = 5 then c5 else if k = 6 then c6 else if k = 7 then c7 else if k = 8 then c8 else if k = 9 then c9 else if k = 10 then c10 else c11, fun k => if k = 0 then iS0 else if k = 1 then iS1 else if k = 2 then iS2 else if k = 3 then iS3 else if k = 4 then iS4 else if k = 5 then iS5 else if k = 6 then iS6 else if k = 7 then iS7 else if k = 8 then iS8 else if k = 9 then iS9 else if k = 10 then iS10 else iS11, ?_⟩
    intro k q hq
    match k, hq with
    | 0, hq => cases hq; exact hKn0
    | 1, hq => cases hq; exact hKn1
    | 2, hq => cases hq; exact hKn2
    | 3, hq => cases hq; exact hKn3
    | 4, hq => cases hq; exact hKn4
    | 5, hq => cases hq; exact hKn5
    | 6, hq => cases hq; exact hKn6
    | 7, hq => cases hq; exact hKn7
    | 8, hq => cases hq; exact hKn8
    | 9, hq => cases hq; exact hKn9
    | 10, hq => cases hq; exact hKn10
    | 11, hq => cases hq; exact hKn11
    | k + 12, hq => simp [vwCl] at hq
  have hK : va_K (dC, dI) vwCl [] s := ⟨hKc, fun k q h => by simp at h⟩
  have hP : va_P (dC, dI) vwCl [] s.heap := xP0
  have hD : va_D A [] := xD0
  have hS : va_S A s.heap s.heap [] := va_S.rf
  have hl := lv_entry ([.ref b]) (n := 8) (Nat.le_of_ble_eq_true rfl)
  rw [lg_entry_eq]
  generalize (lg_sl ([.ref b]) ++ List.replicate (8 - (lg_sl ([.ref b])).length) Slot.unset).toArray = ls at hl ⊢
  have hl : lv_has ls 8 [(0, .ref b)] := hl
  refine va_new (ci := 0) (fs := [.int 0, .int 0, .null, .null, .null, .null, .null]) (C := R_LM) (T := TLM) (N := 7) hx hb hts (fun w h => List.mem_cons_of_mem _ (ic_LM w h)) tyLM tyLM_ok hown (hts (.classLink R_law 8 R_LM) (List.mem_cons_of_mem _ kw_391)) (hts (.instantiable R_LM 7) (List.mem_cons_of_mem _ kw_392)) (hts (.initialized R_LM) (List.mem_cons_of_mem _ kw_122)) hK hP hD hS hA rfl dvLM (Nat.le_of_ble_eq_true rfl) (Nat.le_of_ble_eq_true rfl) d_law_law_0 (fun q0 H hP hD hS => ?_)
  have hP : va_P (dC, dI) vwCl [(q0, .inr (0, [.int 0, .int 0, .null, .null, .null, .null, .null]))] H := hP
  have hD : va_D A [(q0, .inr (0, [.int 0, .int 0, .null, .null, .null, .null, .null]))] := hD
  refine W.widen (k := 1) (n := 7) (Nat.le_of_ble_eq_true rfl) (Nat.le_of_ble_eq_true rfl) ?_
  refine lv_dup hx hb d_law_law_3 rfl ?_
  have hPc := hP.sub (ws' := [(q0, .inr (0, [.int 0, .int 0, .null, .null, .null, .null, .null]))]) [0] rfl
  have hDc := hD.sub (ws' := [(q0, .inr (0, [.int 0, .int 0, .null, .null, .null, .null, .null]))]) [0] (by decide) rfl
  have hKc := hK.sub (tys' := []) [] rfl
  have hFc := va_free (wc := [(q0, .inr (0, [.int 0, .int 0, .null, .null, .null, .null, .null]))]) hD hS hA [0] rfl
  refine va_callv (va_runI (As := []) (rest := [.ref q0]) ⟨hx, hb, hml, hown, hts⟩ (c_LM_init l dC dI q0 H.size ) (cwI 0 hts (gC k_LM_init) rfl rfl rfl (hts (.initialized R_LM) (List.mem_cons_of_mem _ kw_122)) (hts (.methodLink R_law 55 y_LM_init) (List.mem_cons_of_mem _ kw_393)) (hts (.instanceMethod y_LM_init) (List.mem_cons_of_mem _ kw_394)) rfl (by decide +kernel) ⟨(Nat.le_of_ble_eq_true rfl), (Nat.le_of_ble_eq_true rfl)⟩) ⟨fun a U g mk q => by obtain ⟨q0, q1, qP, qK, qD, qhB, qhZ⟩ := q; exact ⟨q0, q1, qP, va_K.moved (u := U) (U := U.calling g mk a) (Vm.Alike.refl U.vm) qK, qD, xB.warm (s := U) (U := U.calling g mk a) (State.WarmedH.refl U) qhB, xZ.moved (u := U) (U := U.calling g mk a) (Vm.Alike.refl U.vm) qhZ⟩, fun U hU hW => ⟨rfl, by rw [hU], by rw [hU]; exact hPc, va_K.moved hW.alike hKc, hDc.weaken (fun _ _ _ _ => trivial), xB.warm hW hB, (by rw [hU]; exact xZ.moved hW.alike ((hZ.kept hS.2.1).narrow hFc))⟩⟩ rfl rfl hl.1 rfl (lv_room (Nat.le_of_ble_eq_true rfl)) d_law_law_4 ⟨(Nat.le_of_ble_eq_true rfl), (Nat.le_of_ble_eq_true rfl)⟩) hS (fun q _ h => hFc q h) hFc (fun u t H1 locs ht hvm hw hB hz1 hk1 hS => ?_)
  obtain ⟨q5_4, q16_4, q39_4, q78_4, q93_4, a_prototypes_9_4, a_children_9_4, a_code_9_4, a_constantKinds_9_4, a_constantValues_9_4, a_upvalues_9_4, a_tape_9_4, a_open_9_4, a_left_9_4, kt_9_4, kp_9_4, q8_20_4, q18_20_4, q26_20_4, q34_20_4, q42_20_4, q52_20_4, q61_20_4, q70_20_4, q26_4, hP1, hK1, hD1⟩ := hB
  rw [ht] at hP1
  have hK1 := va_K.moved hvm.symm hK1
  obtain ⟨hP, hD⟩ := va_join (wr := []) (w1 := [(q0, .inr (0, [.int 0, .int 0, .ref q5_4, .ref q16_4, .ref q39_4, .ref q78_4, .ref q93_4])), (q5_4, .inr (1, [.ref a_prototypes_9_4, .ref a_children_9_4, .ref a_code_9_4, .ref a_constantKinds_9_4, .ref a_constantValues_9_4, .ref a_upvalues_9_4, .ref a_tape_9_4, .ref a_open_9_4, .ref a_left_9_4, .int 0, .int 0, .int 0, .int 0, .int 0, .int 0, .int 0, .int (-1)])), (a_tape_9_4, .inl (kt_9_4, 65536, .inl (fun _ => 0))), (a_prototypes_9_4, .inl (kp_9_4, 250, .inr (.inr (.inr (.inr (fun _ => none)))))), (q16_4, .inr (2, [.ref q8_20_4, .int 0, .ref q18_20_4, .int 0, .ref q26_20_4, .ref q34_20_4, .ref q42_20_4, .ref q52_20_4, .ref q61_20_4, .int 0, .ref q70_20_4, .int 0, .int 1000, .int 0, .ref q26_4, .ref q39_4]))]) hP hD [0] [] rfl rfl (by decide) (by decide) hk1 hFc hP1 hD1
  have hK := (hK.sub (tys' := []) [] rfl).app hK1
  generalize H1 = H at hP hS ⊢
  have hK : va_K (dC, dI) vwCl [(kt_9_4, .byte), (kp_9_4, .object R_Pr)] s := hK
  have hP : va_P (dC, dI) vwCl [(q0, .inr (0, [.int 0, .int 0, .ref q5_4, .ref q16_4, .ref q39_4, .ref q78_4, .ref q93_4])), (q5_4, .inr (1, [.ref a_prototypes_9_4, .ref a_children_9_4, .ref a_code_9_4, .ref a_constantKinds_9_4, .ref a_constantValues_9_4, .ref a_upvalues_9_4, .ref a_tape_9_4, .ref a_open_9_4, .ref a_left_9_4, .int 0, .int 0, .int 0, .int 0, .int 0, .int 0, .int 0, .int (-1)])), (a_tape_9_4, .inl (kt_9_4, 65536, .inl (fun _ => 0))), (a_prototypes_9_4, .inl (kp_9_4, 250, .inr (.inr (.inr (.inr (fun _ => none)))))), (q16_4, .inr (2, [.ref q8_20_4, .int 0, .ref q18_20_4, .int 0, .ref q26_20_4, .ref q34_20_4, .ref q42_20_4, .ref q52_20_4, .ref q61_20_4, .int 0, .ref q70_20_4, .int 0, .int 1000, .int 0, .ref q26_4, .ref q39_4]))] H := hP
  have hD : va_D A [(q0, .inr (0, [.int 0, .int 0, .ref q5_4, .ref q16_4, .ref q39_4, .ref q78_4, .ref q93_4])), (q5_4, .inr (1, [.ref a_prototypes_9_4, .ref a_children_9_4, .ref a_code_9_4, .ref a_constantKinds_9_4, .ref a_constantValues_9_4, .ref a_upvalues_9_4, .ref a_tape_9_4, .ref a_open_9_4, .ref a_left_9_4, .int 0, .int 0, .int 0, .int 0, .int 0, .int 0, .int 0, .int (-1)])), (a_tape_9_4, .inl (kt_9_4, 65536, .inl (fun _ => 0))), (a_prototypes_9_4, .inl (kp_9_4, 250, .inr (.inr (.inr (.inr (fun _ => none)))))), (q16_4, .inr (2, [.ref q8_20_4, .int 0, .ref q18_20_4, .int 0, .ref q26_20_4, .ref q34_20_4, .ref q42_20_4, .ref q52_20_4, .ref q61_20_4, .int 0, .ref q70_20_4, .int 0, .int 1000, .int 0, .ref q26_4, .ref q39_4]))] := hD
  refine W.widen (k := 44) (n := 532495) (Nat.le_of_ble_eq_true rfl) (Nat.le_of_ble_eq_true rfl) ?_
  refine lv_astore_n (lv' := [(1, .ref q0), (0, .ref b)]) hx hb d_law_law_7 rfl hl (by decide) rfl (fun ls hl => ?_)
  refine va_new (ci := 9) (fs := [.null, .int 0, .int 0, .int 0, .int 0, .int 0, .null, .null, .null, .null, .null, .null, .null, .null, .null, .null, .null, .null, .null, .null, .null, .null, .null, .int 0, .int 0, .int 0, .int 0, .int 0, .int 0, .int 0, .int 0, .int 0, .int 0, .int 0, .int 0, .int 0, .int 0, .int 0, .int 0, .int 0, .int 0, .int 0, .int 0, .int 0, .int 0, .null, .null, .null, .null, .null, .null, .null, .null, .null, .int 0, .null, .null, .null, .null, .null, .null, .null, .null, .null, .int 0, .long 0, .int 0, .long 0, .null, .int 0, .null, .null, .null, .int 0, .int 0, .int 0, .long 0, .null, .null, .null, .int 0, .long 0, .null, .null, .null, .null, .null, .null, .null, .null, .null, .null, .int 0, .null, .null, .int 0, .int 0, .null, .int 0, .long 0]) (C := R_Mo) (T := TMo) (N := 100) hx hb hts (fun w h => List.mem_cons_of_mem _ (ic_Mo w h)) tyMo tyMo_ok hown (hts (.classLink R_law 56 R_Mo) (List.mem_cons_of_mem _ kw_395)) (hts (.instantiable R_Mo 100) (List.mem_cons_of_mem _ kw_396)) (hts (.initialized R_Mo) (List.mem_cons_of_mem _ kw_220)) hK hP hD hS hA rfl dvMo (Nat.le_of_ble_eq_true rfl) (Nat.le_of_ble_eq_true rfl) d_law_law_8 (fun q8 H hP hD hS => ?_)
  have hP : va_P (dC, dI) vwCl [(q0, .inr (0, [.int 0, .int 0, .ref q5_4, .ref q16_4, .ref q39_4, .ref q78_4, .ref q93_4])), (q5_4, .inr (1, [.ref a_prototypes_9_4, .ref a_children_9_4, .ref a_code_9_4, .ref a_constantKinds_9_4, .ref a_constantValues_9_4, .ref a_upvalues_9_4, .ref a_tape_9_4, .ref a_open_9_4, .ref a_left_9_4, .int 0, .int 0, .int 0, .int 0, .int 0, .int 0, .int 0, .int (-1)])), (a_tape_9_4, .inl (kt_9_4, 65536, .inl (fun _ => 0))), (a_prototypes_9_4, .inl (kp_9_4, 250, .inr (.inr (.inr (.inr (fun _ => none)))))), (q16_4, .inr (2, [.ref q8_20_4, .int 0, .ref q18_20_4, .int 0, .ref q26_20_4, .ref q34_20_4, .ref q42_20_4, .ref q52_20_4, .ref q61_20_4, .int 0, .ref q70_20_4, .int 0, .int 1000, .int 0, .ref q26_4, .ref q39_4])), (q8, .inr (9, [.null, .int 0, .int 0, .int 0, .int 0, .int 0, .null, .null, .null, .null, .null, .null, .null, .null, .null, .null, .null, .null, .null, .null, .null, .null, .null, .int 0, .int 0, .int 0, .int 0, .int 0, .int 0, .int 0, .int 0, .int 0, .int 0, .int 0, .int 0, .int 0, .int 0, .int 0, .int 0, .int 0, .int 0, .int 0, .int 0, .int 0, .int 0, .null, .null, .null, .null, .null, .null, .null, .null, .null, .int 0, .null, .null, .null, .null, .null, .null, .null, .null, .null, .int 0, .long 0, .int 0, .long 0, .null, .int 0, .null, .null, .null, .int 0, .int 0, .int 0, .long 0, .null, .null, .null, .int 0, .long 0, .null, .null, .null, .null, .null, .null, .null, .null, .null, .null, .int 0, .null, .null, .int 0, .int 0, .null, .int 0, .long 0]))] H := hP
  have hD : va_D A [(q0, .inr (0, [.int 0, .int 0, .ref q5_4, .ref q16_4, .ref q39_4, .ref q78_4, .ref q93_4])), (q5_4, .inr (1, [.ref a_prototypes_9_4, .ref a_children_9_4, .ref a_code_9_4, .ref a_constantKinds_9_4, .ref a_constantValues_9_4, .ref a_upvalues_9_4, .ref a_tape_9_4, .ref a_open_9_4, .ref a_left_9_4, .int 0, .int 0, .int 0, .int 0, .int 0, .int 0, .int 0, .int (-1)])), (a_tape_9_4, .inl (kt_9_4, 65536, .inl (fun _ => 0))), (a_prototypes_9_4, .inl (kp_9_4, 250, .inr (.inr (.inr (.inr (fun _ => none)))))), (q16_4, .inr (2, [.ref q8_20_4, .int 0, .ref q18_20_4, .int 0, .ref q26_20_4, .ref q34_20_4, .ref q42_20_4, .ref q52_20_4, .ref q61_20_4, .int 0, .ref q70_20_4, .int 0, .int 1000, .int 0, .ref q26_4, .ref q39_4])), (q8, .inr (9, [.null, .int 0, .int 0, .int 0, .int 0, .int 0, .null, .null, .null, .null, .null, .null, .null, .null, .null, .null, .null, .null, .null, .null, .null, .null, .null, .int 0, .int 0, .int 0, .int 0, .int 0, .int 0, .int 0, .int 0, .int 0, .int 0, .int 0, .int 0, .int 0, .int 0, .int 0, .int 0, .int 0, .int 0, .int 0, .int 0, .int 0, .int 0, .null, .null, .null, .null, .null, .null, .null, .null, .null, .int 0, .null, .null, .null, .null, .null, .null, .null, .null, .null, .int 0, .long 0, .int 0, .long 0, .null, .int 0, .null, .null, .null, .int 0, .int 0, .int 0, .long 0, .null, .null, .null, .int 0, .long 0, .null, .null, .null, .null, .null, .null, .null, .null, .null, .null, .int 0, .null, .null, .int 0, .int 0, .null, .int 0, .long 0]))] := hD
  refine W.widen (k := 45) (n := 532595) (Nat.le_of_ble_eq_true rfl) (Nat.le_of_ble_eq_true rfl) ?_
  refine lv_dup hx hb d_law_law_11 rfl ?_
  have hPc := hP.sub (ws' := [(q8, .inr (9, [.null, .int 0, .int 0, .int 0, .int 0, .int 0, .null, .null, .null, .null, .null, .null, .null, .null, .null, .null, .null, .null, .null, .null, .null, .null, .null, .int 0, .int 0, .int 0, .int 0, .int 0, .int 0, .int 0, .int 0, .int 0, .int 0, .int 0, .int 0, .int 0, .int 0, .int 0, .int 0, .int 0, .int 0, .int 0, .int 0, .int 0, .int 0, .null, .null, .null, .null, .null, .null, .null, .null, .null, .int 0, .null, .null, .null, .null, .null, .null, .null, .null, .null, .int 0, .long 0, .int 0, .long 0, .null, .int 0, .null, .null, .null, .int 0, .int 0, .int 0, .long 0, .null, .null, .null, .int 0, .long 0, .null, .null, .null, .null, .null, .null, .null, .null, .null, .null, .int 0, .null, .null, .int 0, .int 0, .null, .int 0, .long 0]))]) [5] rfl
  have hDc := hD.sub (ws' := [(q8, .inr (9, [.null, .int 0, .int 0, .int 0, .int 0, .int 0, .null, .null, .null, .null, .null, .null, .null, .null, .null, .null, .null, .null, .null, .null, .null, .null, .null, .int 0, .int 0, .int 0, .int 0, .int 0, .int 0, .int 0, .int 0, .int 0, .int 0, .int 0, .int 0, .int 0, .int 0, .int 0, .int 0, .int 0, .int 0, .int 0, .int 0, .int 0, .int 0, .null, .null, .null, .null, .null, .null, .null, .null, .null, .int 0, .null, .null, .null, .null, .null, .null, .null, .null, .null, .int 0, .long 0, .int 0, .long 0, .null, .int 0, .null, .null, .null, .int 0, .int 0, .int 0, .long 0, .null, .null, .null, .int 0, .long 0, .null, .null, .null, .null, .null, .null, .null, .null, .null, .null, .int 0, .null, .null, .int 0, .int 0, .null, .int 0, .long 0]))]) [5] (by decide) rfl
  have hKc := hK.sub (tys' := []) [] rfl
  have hFc := va_free (wc := [(q8, .inr (9, [.null, .int 0, .int 0, .int 0, .int 0, .int 0, .null, .null, .null, .null, .null, .null, .null, .null, .null, .null, .null, .null, .null, .null, .null, .null, .null, .int 0, .int 0, .int 0, .int 0, .int 0, .int 0, .int 0, .int 0, .int 0, .int 0, .int 0, .int 0, .int 0, .int 0, .int 0, .int 0, .int 0, .int 0, .int 0, .int 0, .int 0, .int 0, .null, .null, .null, .null, .null, .null, .null, .null, .null, .int 0, .null, .null, .null, .null, .null, .null, .null, .null, .null, .int 0, .long 0, .int 0, .long 0, .null, .int 0, .null, .null, .null, .int 0, .int 0, .int 0, .long 0, .null, .null, .null, .int 0, .long 0, .null, .null, .null, .null, .null, .null, .null, .null, .null, .null, .int 0, .null, .null, .int 0, .int 0, .null, .int 0, .long 0]))]) hD hS hA [5] rfl
  refine va_callv (va_runI (As := []) (rest := [.ref q8]) ⟨hx, hb, hml, hown, hts⟩ (c_Mo_init l dC dI q8 ad H.size ) (cwI 0 hts (gC k_Mo_init) rfl rfl rfl (hts (.initialized R_Mo) (List.mem_cons_of_mem _ kw_220)) (hts (.methodLink R_law 58 y_Mo_init) (List.mem_cons_of_mem _ kw_397)) (hts (.instanceMethod y_Mo_init) (List.mem_cons_of_mem _ kw_398)) rfl (by decide +kernel) ⟨(Nat.le_of_ble_eq_true rfl), (Nat.le_of_ble_eq_true rfl)⟩) ⟨fun a U g mk q => by obtain ⟨q0, q1, qP, qK, qD, qhB, qhZ, qhT⟩ := q; exact ⟨q0, q1, qP, va_K.moved (u := U) (U := U.calling g mk a) (Vm.Alike.refl U.vm) qK, qD, xB.warm (s := U) (U := U.calling g mk a) (State.WarmedH.refl U) qhB, xZ.moved (u := U) (U := U.calling g mk a) (Vm.Alike.refl U.vm) qhZ, xK.moved (u := U) (U := U.calling g mk a) (State.WarmedH.refl U) qhT⟩, fun U hU hW => ⟨rfl, by rw [hU], by rw [hU]; exact hPc, va_K.moved hW.alike hKc, hDc.weaken (fun _ _ _ _ => trivial), xB.warm hW hB, (by rw [hU]; exact xZ.moved hW.alike ((hZ.kept hS.2.1).narrow hFc)), (by rw [hU]; exact xK.moved hW ((hT.kept hS.2.1).narrow hFc))⟩⟩ rfl rfl hl.1 rfl (lv_room (Nat.le_of_ble_eq_true rfl)) d_law_law_12 ⟨(Nat.le_of_ble_eq_true rfl), (Nat.le_of_ble_eq_true rfl)⟩) hS (fun q _ h => hFc q h) hFc (fun u t H1 locs ht hvm hw hB hz1 hk1 hS => ?_)
  obtain ⟨q7_12, q41_12, q50_12, q59_12, q68_12, q77_12, q86_12, q95_12, q104_12, q113_12, q122_12, q131_12, q140_12, q149_12, q158_12, q167_12, q173_12, q190_12, q309_12, q318_12, q327_12, q336_12, q345_12, q354_12, q363_12, q372_12, q381_12, q394_12, q403_12, q439_12, q476_12, q487_12, q502_12, q534_12, q548_12, q562_12, q588_12, q596_12, q767_12, q924_12, q975_12, q1008_12, q1016_12, q1023_12, q1031_12, q1039_12, q1053_12, q1062_12, q1080_12, k7_12, k41_12, k50_12, k59_12, k68_12, hP1, hK1, hD1⟩ := hB
  rw [ht] at hP1
  have hK1 := va_K.moved hvm.symm hK1
  obtain ⟨hP, hD⟩ := va_join (wr := [(q0, .inr (0, [.int 0, .int 0, .ref q5_4, .ref q16_4, .ref q39_4, .ref q78_4, .ref q93_4])), (q5_4, .inr (1, [.ref a_prototypes_9_4, .ref a_children_9_4, .ref a_code_9_4, .ref a_constantKinds_9_4, .ref a_constantValues_9_4, .ref a_upvalues_9_4, .ref a_tape_9_4, .ref a_open_9_4, .ref a_left_9_4, .int 0, .int 0, .int 0, .int 0, .int 0, .int 0, .int 0, .int (-1)])), (a_tape_9_4, .inl (kt_9_4, 65536, .inl (fun _ => 0))), (a_prototypes_9_4, .inl (kp_9_4, 250, .inr (.inr (.inr (.inr (fun _ => none)))))), (q16_4, .inr (2, [.ref q8_20_4, .int 0, .ref q18_20_4, .int 0, .ref q26_20_4, .ref q34_20_4, .ref q42_20_4, .ref q52_20_4, .ref q61_20_4, .int 0, .ref q70_20_4, .int 0, .int 1000, .int 0, .ref q26_4, .ref q39_4]))]) (w1 := [(q8, .inr (9, [.ref q7_12, .int 0, .int 0, .int 0, .int (-1), .int 0, .ref q41_12, .ref q50_12, .ref q59_12, .ref q68_12, .ref q77_12, .ref q86_12, .ref q95_12, .ref q104_12, .ref q113_12, .ref q122_12, .ref q131_12, .ref q140_12, .ref q149_12, .ref q158_12, .ref q167_12, .ref q173_12, .ref q190_12, .int 0, .int 0, .int 0, .int 0, .int 0, .int 0, .int 0, .int 0, .int 0, .int 1000, .int 0, .int 0, .int 0, .int 0, .int 0, .int 0, .int 0, .int 0, .int 0, .int 0, .int 0, .int 0, .ref q309_12, .ref q318_12, .ref q327_12, .ref q336_12, .ref q345_12, .ref q354_12, .ref q363_12, .ref q372_12, .ref q381_12, .int 0, .ref q394_12, .ref q403_12, .null, .null, .null, .null, .null, .null, .ref q439_12, .int 0, .long 0, .int 0, .long 0, .ref q476_12, .int 0, .ref q487_12, .ref q502_12, .null, .int 0, .int (-1), .int 0, .long 0, .ref q534_12, .ref q548_12, .ref q562_12, .int 0, .long 0, .ref q588_12, .ref q596_12, .ref q767_12, .ref q924_12, .ref q975_12, .ref q1008_12, .ref q1016_12, .ref q1023_12, .ref q1031_12, .ref q1039_12, .int 0, .ref q1053_12, .ref q1062_12, .int 0, .int 0, .ref q1080_12, .int 0, .long 0])), (q7_12, .inl (k7_12, 65536, .inl (fun _ => 0))), (q41_12, .inl (k41_12, 251, .inl (fun _ => 0))), (q50_12, .inl (k50_12, 251, .inl (fun _ => 0))), (q59_12, .inl (k59_12, 251, .inl (fun _ => 0))), (q68_12, .inl (k68_12, 251, .inl (fun _ => 0)))]) hP hD [5] [0, 1, 2, 3, 4] rfl rfl (by decide) (by decide) hk1 hFc hP1 hD1
  have hK := (hK.sub (tys' := [(kt_9_4, .byte), (kp_9_4, .object R_Pr)]) [0, 1] rfl).app hK1
  generalize H1 = H at hP hS ⊢
  have hK : va_K (dC, dI) vwCl [(kt_9_4, .byte), (kp_9_4, .object R_Pr), (k7_12, .byte), (k41_12, .int), (k50_12, .int), (k59_12, .int), (k68_12, .int)] s := hK
  have hP : va_P (dC, dI) vwCl [(q0, .inr (0, [.int 0, .int 0, .ref q5_4, .ref q16_4, .ref q39_4, .ref q78_4, .ref q93_4])), (q5_4, .inr (1, [.ref a_prototypes_9_4, .ref a_children_9_4, .ref a_code_9_4, .ref a_constantKinds_9_4, .ref a_constantValues_9_4, .ref a_upvalues_9_4, .ref a_tape_9_4, .ref a_open_9_4, .ref a_left_9_4, .int 0, .int 0, .int 0, .int 0, .int 0, .int 0, .int 0, .int (-1)])), (a_tape_9_4, .inl (kt_9_4, 65536, .inl (fun _ => 0))), (a_prototypes_9_4, .inl (kp_9_4, 250, .inr (.inr (.inr (.inr (fun _ => none)))))), (q16_4, .inr (2, [.ref q8_20_4, .int 0, .ref q18_20_4, .int 0, .ref q26_20_4, .ref q34_20_4, .ref q42_20_4, .ref q52_20_4, .ref q61_20_4, .int 0, .ref q70_20_4, .int 0, .int 1000, .int 0, .ref q26_4, .ref q39_4])), (q8, .inr (9, [.ref q7_12, .int 0, .int 0, .int 0, .int (-1), .int 0, .ref q41_12, .ref q50_12, .ref q59_12, .ref q68_12, .ref q77_12, .ref q86_12, .ref q95_12, .ref q104_12, .ref q113_12, .ref q122_12, .ref q131_12, .ref q140_12, .ref q149_12, .ref q158_12, .ref q167_12, .ref q173_12, .ref q190_12, .int 0, .int 0, .int 0, .int 0, .int 0, .int 0, .int 0, .int 0, .int 0, .int 1000, .int 0, .int 0, .int 0, .int 0, .int 0, .int 0, .int 0, .int 0, .int 0, .int 0, .int 0, .int 0, .ref q309_12, .ref q318_12, .ref q327_12, .ref q336_12, .ref q345_12, .ref q354_12, .ref q363_12, .ref q372_12, .ref q381_12, .int 0, .ref q394_12, .ref q403_12, .null, .null, .null, .null, .null, .null, .ref q439_12, .int 0, .long 0, .int 0, .long 0, .ref q476_12, .int 0, .ref q487_12, .ref q502_12, .null, .int 0, .int (-1), .int 0, .long 0, .ref q534_12, .ref q548_12, .ref q562_12, .int 0, .long 0, .ref q588_12, .ref q596_12, .ref q767_12, .ref q924_12, .ref q975_12, .ref q1008_12, .ref q1016_12, .ref q1023_12, .ref q1031_12, .ref q1039_12, .int 0, .ref q1053_12, .ref q1062_12, .int 0, .int 0, .ref q1080_12, .int 0, .long 0])), (q7_12, .inl (k7_12, 65536, .inl (fun _ => 0))), (q41_12, .inl (k41_12, 251, .inl (fun _ => 0))), (q50_12, .inl (k50_12, 251, .inl (fun _ => 0))), (q59_12, .inl (k59_12, 251, .inl (fun _ => 0))), (q68_12, .inl (k68_12, 251, .inl (fun _ => 0)))] H := hP
  have hD : va_D A [(q0, .inr (0, [.int 0, .int 0, .ref q5_4, .ref q16_4, .ref q39_4, .ref q78_4, .ref q93_4])), (q5_4, .inr (1, [.ref a_prototypes_9_4, .ref a_children_9_4, .ref a_code_9_4, .ref a_constantKinds_9_4, .ref a_constantValues_9_4, .ref a_upvalues_9_4, .ref a_tape_9_4, .ref a_open_9_4, .ref a_left_9_4, .int 0, .int 0, .int 0, .int 0, .int 0, .int 0, .int 0, .int (-1)])), (a_tape_9_4, .inl (kt_9_4, 65536, .inl (fun _ => 0))), (a_prototypes_9_4, .inl (kp_9_4, 250, .inr (.inr (.inr (.inr (fun _ => none)))))), (q16_4, .inr (2, [.ref q8_20_4, .int 0, .ref q18_20_4, .int 0, .ref q26_20_4, .ref q34_20_4, .ref q42_20_4, .ref q52_20_4, .ref q61_20_4, .int 0, .ref q70_20_4, .int 0, .int 1000, .int 0, .ref q26_4, .ref q39_4])), (q8, .inr (9, [.ref q7_12, .int 0, .int 0, .int 0, .int (-1), .int 0, .ref q41_12, .ref q50_12, .ref q59_12, .ref q68_12, .ref q77_12, .ref q86_12, .ref q95_12, .ref q104_12, .ref q113_12, .ref q122_12, .ref q131_12, .ref q140_12, .ref q149_12, .ref q158_12, .ref q167_12, .ref q173_12, .ref q190_12, .int 0, .int 0, .int 0, .int 0, .int 0, .int 0, .int 0, .int 0, .int 0, .int 1000, .int 0, .int 0, .int 0, .int 0, .int 0, .int 0, .int 0, .int 0, .int 0, .int 0, .int 0, .int 0, .ref q309_12, .ref q318_12, .ref q327_12, .ref q336_12, .ref q345_12, .ref q354_12, .ref q363_12, .ref q372_12, .ref q381_12, .int 0, .ref q394_12, .ref q403_12, .null, .null, .null, .null, .null, .null, .ref q439_12, .int 0, .long 0, .int 0, .long 0, .ref q476_12, .int 0, .ref q487_12, .ref q502_12, .null, .int 0, .int (-1), .int 0, .long 0, .ref q534_12, .ref q548_12, .ref q562_12, .int 0, .long 0, .ref q588_12, .ref q596_12, .ref q767_12, .ref q924_12, .ref q975_12, .ref q1008_12, .ref q1016_12, .ref q1023_12, .ref q1031_12, .ref q1039_12, .int 0, .ref q1053_12, .ref q1062_12, .int 0, .int 0, .ref q1080_12, .int 0, .long 0])), (q7_12, .inl (k7_12, 65536, .inl (fun _ => 0))), (q41_12, .inl (k41_12, 251, .inl (fun _ => 0))), (q50_12, .inl (k50_12, 251, .inl (fun _ => 0))), (q59_12, .inl (k59_12, 251, .inl (fun _ => 0))), (q68_12, .inl (k68_12, 251, .inl (fun _ => 0)))] := hD
  refine W.widen (k := 832) (n := 1998628) (Nat.le_of_ble_eq_true rfl) (Nat.le_of_ble_eq_true rfl) ?_
  refine lv_astore_n (lv' := [(2, .ref q8), (1, .ref q0), (0, .ref b)]) hx hb d_law_law_15 rfl hl (by decide) rfl (fun ls hl => ?_)
  refine lv_iconst (v := 1) hx hb d_law_law_16 (by decide) ?_
  refine va_newa (atype := .long) (a0 := (1, .inr (.inl (fun _ => 0)))) hx hb (hts (.arrayClass .long) (List.mem_cons_of_mem _ kw_11)) (ty := .long) rfl hK hP hD hS hA (fun _ => rfl) (by decide) (by decide) (by decide) (Nat.le_of_ble_eq_true rfl) (Nat.le_of_ble_eq_true rfl) d_law_law_17 (fun q17 k17 H hK hP hD hS => ?_)
  have hK : va_K (dC, dI) vwCl [(kt_9_4, .byte), (kp_9_4, .object R_Pr), (k7_12, .byte), (k41_12, .int), (k50_12, .int), (k59_12, .int), (k68_12, .int), (k17, .long)] s := hK
  have hP : va_P (dC, dI) vwCl [(q0, .inr (0, [.int 0, .int 0, .ref q5_4, .ref q16_4, .ref q39_4, .ref q78_4, .ref q93_4])), (q5_4, .inr (1, [.ref a_prototypes_9_4, .ref a_children_9_4, .ref a_code_9_4, .ref a_constantKinds_9_4, .ref a_constantValues_9_4, .ref a_upvalues_9_4, .ref a_tape_9_4, .ref a_open_9_4, .ref a_left_9_4, .int 0, .int 0, .int 0, .int 0, .int 0, .int 0, .int 0, .int (-1)])), (a_tape_9_4, .inl (kt_9_4, 65536, .inl (fun _ => 0))), (a_prototypes_9_4, .inl (kp_9_4, 250, .inr (.inr (.inr (.inr (fun _ => none)))))), (q16_4, .inr (2, [.ref q8_20_4, .int 0, .ref q18_20_4, .int 0, .ref q26_20_4, .ref q34_20_4, .ref q42_20_4, .ref q52_20_4, .ref q61_20_4, .int 0, .ref q70_20_4, .int 0, .int 1000, .int 0, .ref q26_4, .ref q39_4])), (q8, .inr (9, [.ref q7_12, .int 0, .int 0, .int 0, .int (-1), .int 0, .ref q41_12, .ref q50_12, .ref q59_12, .ref q68_12, .ref q77_12, .ref q86_12, .ref q95_12, .ref q104_12, .ref q113_12, .ref q122_12, .ref q131_12, .ref q140_12, .ref q149_12, .ref q158_12, .ref q167_12, .ref q173_12, .ref q190_12, .int 0, .int 0, .int 0, .int 0, .int 0, .int 0, .int 0, .int 0, .int 0, .int 1000, .int 0, .int 0, .int 0, .int 0, .int 0, .int 0, .int 0, .int 0, .int 0, .int 0, .int 0, .int 0, .ref q309_12, .ref q318_12, .ref q327_12, .ref q336_12, .ref q345_12, .ref q354_12, .ref q363_12, .ref q372_12, .ref q381_12, .int 0, .ref q394_12, .ref q403_12, .null, .null, .null, .null, .null, .null, .ref q439_12, .int 0, .long 0, .int 0, .long 0, .ref q476_12, .int 0, .ref q487_12, .ref q502_12, .null, .int 0, .int (-1), .int 0, .long 0, .ref q534_12, .ref q548_12, .ref q562_12, .int 0, .long 0, .ref q588_12, .ref q596_12, .ref q767_12, .ref q924_12, .ref q975_12, .ref q1008_12, .ref q1016_12, .ref q1023_12, .ref q1031_12, .ref q1039_12, .int 0, .ref q1053_12, .ref q1062_12, .int 0, .int 0, .ref q1080_12, .int 0, .long 0])), (q7_12, .inl (k7_12, 65536, .inl (fun _ => 0))), (q41_12, .inl (k41_12, 251, .inl (fun _ => 0))), (q50_12, .inl (k50_12, 251, .inl (fun _ => 0))), (q59_12, .inl (k59_12, 251, .inl (fun _ => 0))), (q68_12, .inl (k68_12, 251, .inl (fun _ => 0))), (q17, .inl (k17, 1, .inr (.inl (fun _ => 0))))] H := hP
  have hD : va_D A [(q0, .inr (0, [.int 0, .int 0, .ref q5_4, .ref q16_4, .ref q39_4, .ref q78_4, .ref q93_4])), (q5_4, .inr (1, [.ref a_prototypes_9_4, .ref a_children_9_4, .ref a_code_9_4, .ref a_constantKinds_9_4, .ref a_constantValues_9_4, .ref a_upvalues_9_4, .ref a_tape_9_4, .ref a_open_9_4, .ref a_left_9_4, .int 0, .int 0, .int 0, .int 0, .int 0, .int 0, .int 0, .int (-1)])), (a_tape_9_4, .inl (kt_9_4, 65536, .inl (fun _ => 0))), (a_prototypes_9_4, .inl (kp_9_4, 250, .inr (.inr (.inr (.inr (fun _ => none)))))), (q16_4, .inr (2, [.ref q8_20_4, .int 0, .ref q18_20_4, .int 0, .ref q26_20_4, .ref q34_20_4, .ref q42_20_4, .ref q52_20_4, .ref q61_20_4, .int 0, .ref q70_20_4, .int 0, .int 1000, .int 0, .ref q26_4, .ref q39_4])), (q8, .inr (9, [.ref q7_12, .int 0, .int 0, .int 0, .int (-1), .int 0, .ref q41_12, .ref q50_12, .ref q59_12, .ref q68_12, .ref q77_12, .ref q86_12, .ref q95_12, .ref q104_12, .ref q113_12, .ref q122_12, .ref q131_12, .ref q140_12, .ref q149_12, .ref q158_12, .ref q167_12, .ref q173_12, .ref q190_12, .int 0, .int 0, .int 0, .int 0, .int 0, .int 0, .int 0, .int 0, .int 0, .int 1000, .int 0, .int 0, .int 0, .int 0, .int 0, .int 0, .int 0, .int 0, .int 0, .int 0, .int 0, .int 0, .ref q309_12, .ref q318_12, .ref q327_12, .ref q336_12, .ref q345_12, .ref q354_12, .ref q363_12, .ref q372_12, .ref q381_12, .int 0, .ref q394_12, .ref q403_12, .null, .null, .null, .null, .null, .null, .ref q439_12, .int 0, .long 0, .int 0, .long 0, .ref q476_12, .int 0, .ref q487_12, .ref q502_12, .null, .int 0, .int (-1), .int 0, .long 0, .ref q534_12, .ref q548_12, .ref q562_12, .int 0, .long 0, .ref q588_12, .ref q596_12, .ref q767_12, .ref q924_12, .ref q975_12, .ref q1008_12, .ref q1016_12, .ref q1023_12, .ref q1031_12, .ref q1039_12, .int 0, .ref q1053_12, .ref q1062_12, .int 0, .int 0, .ref q1080_12, .int 0, .long 0])), (q7_12, .inl (k7_12, 65536, .inl (fun _ => 0))), (q41_12, .inl (k41_12, 251, .inl (fun _ => 0))), (q50_12, .inl (k50_12, 251, .inl (fun _ => 0))), (q59_12, .inl (k59_12, 251, .inl (fun _ => 0))), (q68_12, .inl (k68_12, 251, .inl (fun _ => 0))), (q17, .inl (k17, 1, .inr (.inl (fun _ => 0))))] := hD
  refine W.widen (k := 833) (n := 1998629) (Nat.le_of_ble_eq_true rfl) (Nat.le_of_ble_eq_true rfl) ?_
  refine lv_astore_n (lv' := [(3, .ref q17), (2, .ref q8), (1, .ref q0), (0, .ref b)]) hx hb d_law_law_19 rfl hl (by decide) rfl (fun ls hl => ?_)
  refine lv_iconst (v := 0) hx hb d_law_law_20 (by decide) ?_
  refine lv_istore (lv' := [(4, .int 0), (3, .ref q17), (2, .ref q8), (1, .ref q0), (0, .ref b)]) hx hb d_law_law_21 hl (by decide) rfl (fun ls hl => ?_)
  rcases Nat.lt_or_ge L 6 with hlt | hge
  · refine lv_iload hx hb d_law_law_23 (lv_at hl 0 rfl) ?_
    refine lv_aload_n hx hb d_law_law_25 rfl (lv_at hl 4 rfl) ?_
    refine va_slen hx hb hX hbl hbA hS d_law_law_26 ?_
    refine lv_bipush (v := 6) hx hb d_law_law_27 (by decide) ?_
    refine lv_isub hx hb d_law_law_29 ?_
    refine lv_icmp_gt (tgt := 786) hx hb d_law_law_30 (by decide) (fun _ => ?_) (fun h => absurd (show nI L - nI 6 < 0 from pk_sneg (by decide) hlt) h)
    refine lv_iconst (v := 1) hx hb d_law_law_786 (by decide) ?_
    refine va_forget (fun q hq => hA2 _ (hS.2.2 q hq)) ?_
    refine W.widen (k := 600002) (n := 7302232) (Nat.le_of_ble_eq_true rfl) (Nat.le_of_ble_eq_true rfl) ?_
    exact lw_ret hx hb hr hlocks d_law_law_787
  · obtain rfl : L = 6 := Nat.le_antisymm hL hge
    refine lv_iload hx hb d_law_law_23 (lv_at hl 0 rfl) ?_
    refine lv_aload_n hx hb d_law_law_25 rfl (lv_at hl 4 rfl) ?_
    refine va_slen hx hb hX hbl hbA hS d_law_law_26 ?_
    refine gx_i (v := 6) rfl ?_
    refine lv_bipush (v := 6) hx hb d_law_law_27 (by decide) ?_
    refine lv_isub hx hb d_law_law_29 ?_
    refine gx_i (v := 0) (by decide) ?_
    refine lv_icmp_gt (tgt := 786) hx hb d_law_law_30 (by decide) (fun c_30 => absurd c_30 (by decide)) (fun c_30 => ?_)
    refine lv_aload_n hx hb d_law_law_33 rfl (lv_at hl 4 rfl) ?_
    refine lv_iload hx hb d_law_law_34 (lv_at hl 0 rfl) ?_
    refine va_sld hx hb hX hbl hbA hS (show ¬ ((0 : Int32) < 0 ∨ 6 ≤ (0 : Int32).toNatClampNeg) by decide) d_law_law_36 ?_
    refine gx_i (v := xs 0) rfl ?_
    refine lv_bipush (v := 15) hx hb d_law_law_37 (by decide) ?_
    refine lv_iand hx hb d_law_law_39 ?_
    obtain ⟨k, hk, ek⟩ := pk_andE (xs 0) (m := 15) 4 (by decide)
    refine gx_i ek ?_
    have hk16 : k = 0 ∨ k = 1 ∨ k = 2 ∨ k = 3 ∨ k = 4 ∨ k = 5 ∨ k = 6 ∨ k = 7 ∨ k = 8 ∨ k = 9 ∨ k = 10 ∨ k = 11 ∨ k = 12 ∨ k = 13 ∨ k = 14 ∨ k = 15 := by omega
    rcases hk16 with rfl | rfl | rfl | rfl | rfl | rfl | rfl | rfl | rfl | rfl | rfl | rfl | rfl | rfl | rfl | rfl
    · refine gx_i (v := 0) rfl ?_
      refine lv_tableIn (off := 64) (tgt := 104) hx hb d_law_law_40 (by decide) (by decide) (by decide) (by decide) ?_
      exact lc_feed hst C0 hB hZ hNc hA hA2 hbA hK hP hD hS hl
    · refine gx_i (v := 1) rfl ?_
      refine lv_tableIn (off := 168) (tgt := 208) hx hb d_law_law_40 (by decide) (by decide) (by decide) (by decide) ?_
      by_cases g1 : (xs 1) < 0
      · exact lc_end_bad hst C0 hB hZ hNc hA hA2 hbA hK hP hD hS hl (Or.inl g1)
      · by_cases g2 : (xs 1) ≤ 0
        · exact lc_end_ok hst C0 hB hZ hNc hA hA2 hbA hK hP hD hS hl g1 g2
        · exact lc_end_bad hst C0 hB hZ hNc hA hA2 hbA hK hP hD hS hl (Or.inr g2)
    · refine gx_i (v := 2) rfl ?_
      refine lv_tableIn (off := 224) (tgt := 264) hx hb d_law_law_40 (by decide) (by decide) (by decide) (by decide) ?_
      exact lc_load hst C0 hB hZ hNc hA hA2 hbA hK hP hD hS hl
    · refine gx_i (v := 3) rfl ?_
      refine lv_tableIn (off := 268) (tgt := 308) hx hb d_law_law_40 (by decide) (by decide) (by decide) (by decide) ?_
      by_cases g1 : (xs 1) = 0
      · exact lc_fault_0 hst C0 hB hZ hNc hA hA2 hbA hK hP hD hS hl g1
      · by_cases g2 : (xs 1) = 1
        · exact lc_fault_1 hst C0 hB hZ hNc hA hA2 hbA hK hP hD hS hl g2
        · exact lc_fault_bad hst C0 hB hZ hNc hA hA2 hbA hK hP hD hS hl g1 g2
    · refine gx_i (v := 4) rfl ?_
      refine lv_tableIn (off := 324) (tgt := 364) hx hb d_law_law_40 (by decide) (by decide) (by decide) (by decide) ?_
      by_cases g1 : (xs 1) < 200
      · exact lc_limit_bad hst C0 hB hZ hNc hA hA2 hbA hK hP hD hS hl (Or.inl g1)
      · by_cases g2 : (xs 1) ≤ 4000
        · exact lc_limit_ok hst C0 hB hZ hNc hA hA2 hbA hK hP hD hS hl g1 g2
        · exact lc_limit_bad hst C0 hB hZ hNc hA hA2 hbA hK hP hD hS hl (Or.inr g2)
    · refine gx_i (v := 5) rfl ?_
      refine lv_tableIn (off := 380) (tgt := 420) hx hb d_law_law_40 (by decide) (by decide) (by decide) (by decide) ?_
      by_cases g1 : (xs 1) < 1
      · exact lc_run_bad hst C0 hB hZ hNc hA hA2 hbA hK hP hD hS hl (Or.inl g1)
      · by_cases g2 : (xs 1) ≤ 100000
        · exact lc_run_not hst C0 hB hZ hNc hA hA2 hbA hK hP hD hS hl g1 g2
        · exact lc_run_bad hst C0 hB hZ hNc hA hA2 hbA hK hP hD hS hl (Or.inr g2)
    · refine gx_i (v := 6) rfl ?_
      refine lv_tableIn (off := 436) (tgt := 476) hx hb d_law_law_40 (by decide) (by decide) (by decide) (by decide) ?_
      exact lc_collect hst C0 hB hZ hNc hA hA2 hbA hK hP hD hS hl
    · refine gx_i (v := 7) rfl ?_
      refine lv_tableIn (off := 480) (tgt := 520) hx hb d_law_law_40 (by decide) (by decide) (by decide) (by decide) ?_
      exact lc_kind hst C0 hB hZ hNc hA hA2 hbA hK hP hD hS hl
    · refine gx_i (v := 8) rfl ?_
      refine lv_tableIn (off := 536) (tgt := 576) hx hb d_law_law_40 (by decide) (by decide) (by decide) (by decide) ?_
      exact lc_value hst C0 hB hZ hNc hA hA2 hbA hK hP hD hS hl
    · refine gx_i (v := 9) rfl ?_
      refine lv_tableIn (off := 591) (tgt := 631) hx hb d_law_law_40 (by decide) (by decide) (by decide) (by decide) ?_
      exact lc_byteOf hst C0 hB hZ hNc hA hA2 hbA hK hP hD hS hl
    · refine gx_i (v := 10) rfl ?_
      refine lv_tableIn (off := 659) (tgt := 699) hx hb d_law_law_40 (by decide) (by decide) (by decide) (by decide) ?_
      exact lc_output hst C0 hB hZ hNc hA hA2 hbA hK hP hD hS hl
    · refine gx_i (v := 11) rfl ?_
      refine lv_tableIn (off := 715) (tgt := 755) hx hb d_law_law_40 (by decide) (by decide) (by decide) (by decide) ?_
      by_cases g1 : (xs 1) < 0
      · exact lc_count_bad hst C0 hB hZ hNc hA hA2 hbA hK hP hD hS hl (Or.inl g1)
      · by_cases g2 : (xs 1) ≤ 11
        · by_cases g3 : (xs 1) = 0
          · exact lc_count_0 hst C0 hB hZ hNc hA hA2 hbA hK hP hD hS hl g3
          · exact lc_count_not hst C0 hB hZ hNc hA hA2 hbA hK hP hD hS hl g1 g2 g3
        · exact lc_count_bad hst C0 hB hZ hNc hA hA2 hbA hK hP hD hS hl (Or.inr g2)
    · refine gx_i (v := 12) rfl ?_
      refine lv_tableOut (tgt := 780) hx hb d_law_law_40 (by decide) (by decide) ?_
      exact lc_none hst C0 hB hZ hNc hA hA2 hbA hK hP hD hS hl
    · refine gx_i (v := 13) rfl ?_
      refine lv_tableOut (tgt := 780) hx hb d_law_law_40 (by decide) (by decide) ?_
      exact lc_none hst C0 hB hZ hNc hA hA2 hbA hK hP hD hS hl
    · refine gx_i (v := 14) rfl ?_
      refine lv_tableOut (tgt := 780) hx hb d_law_law_40 (by decide) (by decide) ?_
      exact lc_none hst C0 hB hZ hNc hA hA2 hbA hK hP hD hS hl
    · refine gx_i (v := 15) rfl ?_
      refine lv_tableOut (tgt := 780) hx hb d_law_law_40 (by decide) (by decide) ?_
      exact lc_none hst C0 hB hZ hNc hA hA2 hbA hK hP hD hS hl

