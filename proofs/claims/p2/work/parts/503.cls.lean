abbrev b_LM_count : ByteArray := prog_1_method_15_code
def y_LM_count : MethodName := ⟨R_LM, "count", "(I)I"⟩
abbrev w_LM_count : List Cond := .code y_LM_count b_LM_count 2 (some .int) :: wA
theorem k_LM_count : Cond.code y_LM_count b_LM_count 2 (some .int) ∈ wA := kinm (show _ ∈ tables_1 from (List.mem_append_right _ (List.mem_append_left _ (List.mem_of_getElem? (l := tables_1_2) (i := 235) (by decide +kernel))))) (by decide +kernel)
theorem d_LM_count_0 : decode b_LM_count 0 = .ok (.iload_n 1, 1) := by decide +kernel
theorem d_LM_count_1 : decode b_LM_count 1 = .ok (.ifCond .lt 9, 3) := by decide +kernel
theorem d_LM_count_4 : decode b_LM_count 4 = .ok (.iload_n 1, 1) := by decide +kernel
theorem d_LM_count_5 : decode b_LM_count 5 = .ok (.bipush 11, 2) := by decide +kernel
theorem d_LM_count_7 : decode b_LM_count 7 = .ok (.if_icmp .le 5, 3) := by decide +kernel
theorem d_LM_count_10 : decode b_LM_count 10 = .ok (.iconst (-1), 1) := by decide +kernel
theorem d_LM_count_11 : decode b_LM_count 11 = .ok (.ireturn, 1) := by decide +kernel
theorem d_LM_count_12 : decode b_LM_count 12 = .ok (.iload_n 1, 1) := by decide +kernel
theorem d_LM_count_13 : decode b_LM_count 13 = .ok (.ifCond .ne 8, 3) := by decide +kernel
theorem d_LM_count_16 : decode b_LM_count 16 = .ok (.aload_n 0, 1) := by decide +kernel
theorem d_LM_count_17 : decode b_LM_count 17 = .ok (.getfield 58, 3) := by decide +kernel
theorem d_LM_count_20 : decode b_LM_count 20 = .ok (.ireturn, 1) := by decide +kernel
theorem d_LM_count_21 : decode b_LM_count 21 = .ok (.aload_n 0, 1) := by decide +kernel
theorem d_LM_count_22 : decode b_LM_count 22 = .ok (.getfield 77, 3) := by decide +kernel
theorem d_LM_count_25 : decode b_LM_count 25 = .ok (.ifCond .ne 5, 3) := by decide +kernel
theorem d_LM_count_28 : decode b_LM_count 28 = .ok (.iconst 0, 1) := by decide +kernel
theorem d_LM_count_29 : decode b_LM_count 29 = .ok (.ireturn, 1) := by decide +kernel
theorem d_LM_count_30 : decode b_LM_count 30 = .ok (.iload_n 1, 1) := by decide +kernel
theorem d_LM_count_31 : decode b_LM_count 31 = .ok (.tableswitch 105 1 10 #[53, 61, 105, 105, 105, 105, 105, 105, 69, 94], 53) := by decide +kernel
theorem d_LM_count_84 : decode b_LM_count 84 = .ok (.aload_n 0, 1) := by decide +kernel
theorem d_LM_count_85 : decode b_LM_count 85 = .ok (.getfield 54, 3) := by decide +kernel
theorem d_LM_count_88 : decode b_LM_count 88 = .ok (.getfield 92, 3) := by decide +kernel
theorem d_LM_count_91 : decode b_LM_count 91 = .ok (.ireturn, 1) := by decide +kernel
theorem d_LM_count_92 : decode b_LM_count 92 = .ok (.aload_n 0, 1) := by decide +kernel
theorem d_LM_count_93 : decode b_LM_count 93 = .ok (.getfield 33, 3) := by decide +kernel
theorem d_LM_count_96 : decode b_LM_count 96 = .ok (.getfield 184, 3) := by decide +kernel
theorem d_LM_count_99 : decode b_LM_count 99 = .ok (.ireturn, 1) := by decide +kernel
theorem d_LM_count_100 : decode b_LM_count 100 = .ok (.aload_n 0, 1) := by decide +kernel
theorem d_LM_count_101 : decode b_LM_count 101 = .ok (.getfield 33, 3) := by decide +kernel
theorem d_LM_count_104 : decode b_LM_count 104 = .ok (.getfield 111, 3) := by decide +kernel
theorem d_LM_count_107 : decode b_LM_count 107 = .ok (.ifCond .eq 7, 3) := by decide +kernel
theorem d_LM_count_110 : decode b_LM_count 110 = .ok (.iconst 0, 1) := by decide +kernel
theorem d_LM_count_111 : decode b_LM_count 111 = .ok (.goto 13, 3) := by decide +kernel
theorem d_LM_count_114 : decode b_LM_count 114 = .ok (.aload_n 0, 1) := by decide +kernel
theorem d_LM_count_115 : decode b_LM_count 115 = .ok (.getfield 33, 3) := by decide +kernel
theorem d_LM_count_118 : decode b_LM_count 118 = .ok (.getfield 187, 3) := by decide +kernel
theorem d_LM_count_121 : decode b_LM_count 121 = .ok (.getfield 191, 3) := by decide +kernel
theorem d_LM_count_124 : decode b_LM_count 124 = .ok (.ireturn, 1) := by decide +kernel
theorem d_LM_count_125 : decode b_LM_count 125 = .ok (.aload_n 0, 1) := by decide +kernel
theorem d_LM_count_126 : decode b_LM_count 126 = .ok (.getfield 33, 3) := by decide +kernel
theorem d_LM_count_129 : decode b_LM_count 129 = .ok (.getfield 152, 3) := by decide +kernel
theorem d_LM_count_132 : decode b_LM_count 132 = .ok (.getfield 178, 3) := by decide +kernel
theorem d_LM_count_135 : decode b_LM_count 135 = .ok (.ireturn, 1) := by decide +kernel
theorem d_LM_count_136 : decode b_LM_count 136 = .ok (.aload_n 0, 1) := by decide +kernel
theorem d_LM_count_137 : decode b_LM_count 137 = .ok (.getfield 19, 3) := by decide +kernel
theorem d_LM_count_140 : decode b_LM_count 140 = .ok (.getfield 142, 3) := by decide +kernel
theorem d_LM_count_143 : decode b_LM_count 143 = .ok (.iload_n 1, 1) := by decide +kernel
theorem d_LM_count_144 : decode b_LM_count 144 = .ok (.iaload, 1) := by decide +kernel
theorem d_LM_count_145 : decode b_LM_count 145 = .ok (.ireturn, 1) := by decide +kernel
theorem kw_632 : Cond.fieldLink R_LM 77 "LuaMachine" "loaded" "Z" ∈ wA := kinm (show _ ∈ tables_1 from (List.mem_append_right _ (List.mem_append_left _ (List.mem_of_getElem? (l := tables_1_2) (i := 211) (by decide +kernel))))) (by decide +kernel)
theorem kw_633 : Cond.fieldLink R_LM 54 "LuaMachine" "builtIns" "LLuaMachine$BuiltIns;" ∈ wA := kinm (show _ ∈ tables_1 from (List.mem_append_right _ (List.mem_append_left _ (List.mem_of_getElem? (l := tables_1_2) (i := 216) (by decide +kernel))))) (by decide +kernel)
theorem kw_634 : Cond.fieldLink R_LM 92 "LuaMachine$BuiltIns" "outputSize" "I" ∈ wA := kinm (show _ ∈ tables_1 from (List.mem_append_right _ (List.mem_append_left _ (List.mem_of_getElem? (l := tables_1_2) (i := 188) (by decide +kernel))))) (by decide +kernel)
theorem kw_635 : Cond.fieldLink R_LM 33 "LuaMachine" "machine" "LLuaMachine$Machine;" ∈ wA := kinm (show _ ∈ tables_1 from (List.mem_append_right _ (List.mem_append_left _ (List.mem_of_getElem? (l := tables_1_2) (i := 214) (by decide +kernel))))) (by decide +kernel)
theorem kw_636 : Cond.fieldLink R_LM 184 "LuaMachine$Machine" "stepCount" "I" ∈ wA := kinm (show _ ∈ tables_1 from (List.mem_append_right _ (List.mem_append_left _ (List.mem_of_getElem? (l := tables_1_2) (i := 76) (by decide +kernel))))) (by decide +kernel)
theorem kw_637 : Cond.fieldLink R_LM 111 "LuaMachine$Machine" "ended" "I" ∈ wA := kinm (show _ ∈ tables_1 from (List.mem_append_right _ (List.mem_append_left _ (List.mem_of_getElem? (l := tables_1_2) (i := 73) (by decide +kernel))))) (by decide +kernel)
theorem kw_638 : Cond.fieldLink R_LM 187 "LuaMachine$Machine" "current" "LLuaMachine$Coroutine;" ∈ wA := kinm (show _ ∈ tables_1 from (List.mem_append_right _ (List.mem_append_left _ (List.mem_of_getElem? (l := tables_1_2) (i := 81) (by decide +kernel))))) (by decide +kernel)
theorem kw_639 : Cond.fieldLink R_LM 191 "LuaMachine$Coroutine" "depth" "I" ∈ wA := kinm (show _ ∈ tables_1 from (List.mem_append_right _ (List.mem_append_right _ (List.mem_append_right _ (List.mem_append_right _ (List.mem_append_right _ (List.mem_append_left _ (List.mem_of_getElem? (l := tables_1_6) (i := 151) (by decide +kernel))))))))) (by decide +kernel)
theorem kw_640 : Cond.fieldLink R_LM 152 "LuaMachine$Machine" "last" "LLuaMachine$Row;" ∈ wA := kinm (show _ ∈ tables_1 from (List.mem_append_right _ (List.mem_append_left _ (List.mem_of_getElem? (l := tables_1_2) (i := 70) (by decide +kernel))))) (by decide +kernel)
theorem kw_641 : Cond.fieldLink R_LM 178 "LuaMachine$Row" "size" "I" ∈ wA := kinm (show _ ∈ tables_1 from (List.mem_append_right _ (List.mem_append_left _ (List.mem_of_getElem? (l := tables_1_2) (i := 39) (by decide +kernel))))) (by decide +kernel)
theorem kw_642 : Cond.fieldLink R_LM 19 "LuaMachine" "heap" "LLuaMachine$Heap;" ∈ wA := kinm (show _ ∈ tables_1 from (List.mem_append_right _ (List.mem_append_left _ (List.mem_of_getElem? (l := tables_1_2) (i := 213) (by decide +kernel))))) (by decide +kernel)
theorem kw_643 : Cond.fieldLink R_LM 142 "LuaMachine$Heap" "tally" "[I" ∈ wA := kinm (show _ ∈ tables_1 from (List.mem_append_left _ (List.mem_of_getElem? (l := tables_1_1) (i := 143) (by decide +kernel)))) (by decide +kernel)
theorem kw_644 : Cond.fieldLink R_LM 58 "LuaMachine" "tapeLength" "I" ∈ wA := kinm (show _ ∈ tables_1 from (List.mem_append_right _ (List.mem_append_left _ (List.mem_of_getElem? (l := tables_1_2) (i := 210) (by decide +kernel))))) (by decide +kernel)
theorem kw_645 : Cond.instanceMethod y_LM_count ∈ wA := kinm (show _ ∈ tables_1 from (List.mem_append_right _ (List.mem_append_left _ (List.mem_of_getElem? (l := tables_1_2) (i := 233) (by decide +kernel))))) (by decide +kernel)
theorem kw_646 : Cond.selects R_LM y_LM_count y_LM_count ∈ wA := kinm (show _ ∈ tables_1 from (List.mem_append_right _ (List.mem_append_left _ (List.mem_of_getElem? (l := tables_1_2) (i := 234) (by decide +kernel))))) (by decide +kernel)
theorem kw_647 : Cond.initialized R_LM ∈ wA := kinm (show _ ∈ tables_1 from (List.mem_append_left _ (List.mem_of_getElem? (l := tables_1_1) (i := 1) (by decide +kernel)))) (by decide +kernel)
theorem cv_LM_count : CV y_LM_count b_LM_count 2 (some .int) 1 := ⟨kw_645, kw_646, kw_647, k_LM_count, by decide +kernel⟩
theorem ct_LM_count {l : Launch} {P : PP} {q : PL} {s s' : S1} {l1 : Int32} {r : Int32} (h : M_LM_count l1 s = some (r, s')) : Ct l y_LM_count b_LM_count 2 (some .int) 0 0 P q s [.ref (q.1 100 0), .int l1] (some (.int r)) q s' := by
  refine ct_of (by decide) (Nat.le_of_ble_eq_true rfl) fun X ls eP el g hR hl => ?_
  subst eP
  have hR : Rt X q ((r, s') : Int32 × S1).2 (some (.int ((r, s') : Int32 × S1).1)) := hR
  have hl : lv_has ls 2 [(0, .ref (q.1 100 0)), (1, .int l1)] := hl
  generalize (r, s') = o at h hR
  unfold M_LM_count at h
  refine ww_iload_n (pc := 0) g.1 d_LM_count_0 rfl (lv_at hl 1 rfl) ?_
  refine ww_if_lt (pc := 1) (tgt := 10) g.1 d_LM_count_1 (by decide) h (fun c h => ?_) (fun c h => ?_)
  · refine ww_iconst (pc := 10) g.1 (v := (-1)) d_LM_count_10 (by decide) ?_
    exact ww_iretH (pc := 11) g h hR d_LM_count_11
  · refine ww_iload_n (pc := 4) g.1 d_LM_count_4 rfl (lv_at hl 1 rfl) ?_
    refine ww_bipush (pc := 5) g.1 (v := 11) d_LM_count_5 (by decide) ?_
    refine ww_icmp_le (pc := 7) (tgt := 12) g.1 d_LM_count_7 (by decide) h (fun c h => ?_) (fun c h => ?_)
    · refine ww_iload_n (pc := 12) g.1 d_LM_count_12 rfl (lv_at hl 1 rfl) ?_
      refine ww_if_ne (pc := 13) (tgt := 21) g.1 d_LM_count_13 (by decide) h (fun c h => ?_) (fun c h => ?_)
      · refine ww_aload_n (pc := 21) g.1 d_LM_count_21 rfl (lv_at hl 0 rfl) ?_
        refine ww_gI (pc := 22) g (k := 1) cl_LM (pz rfl (by decide)) (by decide) (Or.inl kw_632) (f := 12801) rfl rfl d_LM_count_22 h fun v22 h => ?_
        refine ww_if_ne (pc := 25) (tgt := 30) g.1 d_LM_count_25 (by decide) h (fun c h => ?_) (fun c h => ?_)
        · refine ww_iload_n (pc := 30) g.1 d_LM_count_30 rfl (lv_at hl 1 rfl) ?_
          by_cases c31_84 : l1 = 1
          · have h := oC_pos c31_84 h
            have c := c31_84
            refine ww_tableIn (pc := 31) (tgt := 84) g.1 d_LM_count_31 (by rw [c]; decide) (by rw [c]; decide) (by rw [c] <;> rfl) (by decide) ?_
            refine ww_aload_n (pc := 84) g.1 d_LM_count_84 rfl (lv_at hl 0 rfl) ?_
            refine ww_gR (pc := 85) g (k := 6) cl_LM (pz rfl (by decide)) (by decide) (Or.inl kw_633) (f := 12806) (t := 130) rfl rfl rfl d_LM_count_85 ?_
            refine ww_gI (pc := 88) g (k := 1) cl_Bu (pz rfl (by decide)) (by decide) (Or.inl kw_634) (f := 16641) rfl rfl d_LM_count_88 h fun v88 h => ?_
            exact ww_iretH (pc := 91) g h hR d_LM_count_91
          have h := oC_neg c31_84 h
          by_cases c31_92 : l1 = 2
          · have h := oC_pos c31_92 h
            have c := c31_92
            refine ww_tableIn (pc := 31) (tgt := 92) g.1 d_LM_count_31 (by rw [c]; decide) (by rw [c]; decide) (by rw [c] <;> rfl) (by decide) ?_
            refine ww_aload_n (pc := 92) g.1 d_LM_count_92 rfl (lv_at hl 0 rfl) ?_
            refine ww_gR (pc := 93) g (k := 4) cl_LM (pz rfl (by decide)) (by decide) (Or.inl kw_635) (f := 12804) (t := 128) rfl rfl rfl d_LM_count_93 ?_
            refine ww_gI (pc := 96) g (k := 9) cl_Ma (pz rfl (by decide)) (by decide) (Or.inl kw_636) (f := 16393) rfl rfl d_LM_count_96 h fun v96 h => ?_
            exact ww_iretH (pc := 99) g h hR d_LM_count_99
          have h := oC_neg c31_92 h
          by_cases c31_100 : l1 = 9
          · have h := oC_pos c31_100 h
            have c := c31_100
            refine ww_tableIn (pc := 31) (tgt := 100) g.1 d_LM_count_31 (by rw [c]; decide) (by rw [c]; decide) (by rw [c] <;> rfl) (by decide) ?_
            refine ww_aload_n (pc := 100) g.1 d_LM_count_100 rfl (lv_at hl 0 rfl) ?_
            refine ww_gR (pc := 101) g (k := 4) cl_LM (pz rfl (by decide)) (by decide) (Or.inl kw_635) (f := 12804) (t := 128) rfl rfl rfl d_LM_count_101 ?_
            refine ww_gI (pc := 104) g (k := 8) cl_Ma (pz rfl (by decide)) (by decide) (Or.inl kw_637) (f := 16392) rfl rfl d_LM_count_104 h fun v104 h => ?_
            refine ww_if_eq (pc := 107) (tgt := 114) g.1 d_LM_count_107 (by decide) h (fun c h => ?_) (fun c h => ?_)
            · refine ww_aload_n (pc := 114) g.1 d_LM_count_114 rfl (lv_at hl 0 rfl) ?_
              refine ww_gR (pc := 115) g (k := 4) cl_LM (pz rfl (by decide)) (by decide) (Or.inl kw_635) (f := 12804) (t := 128) rfl rfl rfl d_LM_count_115 ?_
              refine ww_gV (pc := 118) g (k := 11) cl_Ma (pz rfl (by decide)) (by decide) (Or.inl kw_638) (f := 16395) (t := 148) rfl rfl rfl d_LM_count_118 h fun v118 h => ?_
              refine ww_pr h fun pn118 h => ?_
              refine ww_nnP pn118 ?_
              refine ww_gI (pc := 121) g (k := 4) cl_Co pn118 (by decide) (Or.inl kw_639) (f := 18948) rfl rfl d_LM_count_121 h fun v121 h => ?_
              exact ww_iretH (pc := 124) g h hR d_LM_count_124
            · refine ww_iconst (pc := 110) g.1 (v := 0) d_LM_count_110 (by decide) ?_
              refine ww_goto (pc := 111) (tgt := 124) g.1 d_LM_count_111 (by decide) ?_
              exact ww_iretH (pc := 124) g h hR d_LM_count_124
          have h := oC_neg c31_100 h
          by_cases c31_125 : l1 = 10
          · have h := oC_pos c31_125 h
            have c := c31_125
            refine ww_tableIn (pc := 31) (tgt := 125) g.1 d_LM_count_31 (by rw [c]; decide) (by rw [c]; decide) (by rw [c] <;> rfl) (by decide) ?_
            refine ww_aload_n (pc := 125) g.1 d_LM_count_125 rfl (lv_at hl 0 rfl) ?_
            refine ww_gR (pc := 126) g (k := 4) cl_LM (pz rfl (by decide)) (by decide) (Or.inl kw_635) (f := 12804) (t := 128) rfl rfl rfl d_LM_count_126 ?_
            refine ww_gR (pc := 129) g (k := 7) cl_Ma (pz rfl (by decide)) (by decide) (Or.inl kw_640) (f := 16391) (t := 141) rfl rfl rfl d_LM_count_129 ?_
            refine ww_gI (pc := 132) g (k := 2) (cl_Ro ⟨by decide, rfl⟩) (pz rfl (by decide)) (by decide) (Or.inl kw_641) (f := 18050) rfl rfl d_LM_count_132 h fun v132 h => ?_
            exact ww_iretH (pc := 135) g h hR d_LM_count_135
          have h := oC_neg c31_125 h
          have n_1 : ¬ l1.toInt = 1 := lv_neT (fun e => c31_84 e) rfl
          have n_2 : ¬ l1.toInt = 2 := lv_neT (fun e => c31_92 e) rfl
          have n_9 : ¬ l1.toInt = 9 := lv_neT (fun e => c31_100 e) rfl
          have n_10 : ¬ l1.toInt = 10 := lv_neT (fun e => c31_125 e) rfl
          by_cases hr : l1.toInt < 1 ∨ 10 < l1.toInt
          · refine ww_tableOut (pc := 31) (tgt := 136) g.1 d_LM_count_31 hr (by decide) ?_
            refine ww_aload_n (pc := 136) g.1 d_LM_count_136 rfl (lv_at hl 0 rfl) ?_
            refine ww_gR (pc := 137) g (k := 3) cl_LM (pz rfl (by decide)) (by decide) (Or.inl kw_642) (f := 12803) (t := 111) rfl rfl rfl d_LM_count_137 ?_
            refine ww_gR (pc := 140) g (k := 4) cl_He (pz rfl (by decide)) (by decide) (Or.inl kw_643) (f := 14212) (t := 114) rfl rfl rfl d_LM_count_140 ?_
            refine ww_iload_n (pc := 143) g.1 d_LM_count_143 rfl (lv_at hl 1 rfl) ?_
            refine ww_ai (pc := 144) g (pz rfl (by decide)) rfl rfl d_LM_count_144 h fun v144 h => ?_
            exact ww_iretH (pc := 145) g h hR d_LM_count_145
          have hh : l1.toInt = 3 ∨ l1.toInt = 4 ∨ l1.toInt = 5 ∨ l1.toInt = 6 ∨ l1.toInt = 7 ∨ l1.toInt = 8 := by omega
          rcases hh with c | c | c | c | c | c
          · refine ww_tableIn (pc := 31) (tgt := 136) g.1 d_LM_count_31 (by rw [c]; decide) (by rw [c]; decide) (by rw [c] <;> rfl) (by decide) ?_
            refine ww_aload_n (pc := 136) g.1 d_LM_count_136 rfl (lv_at hl 0 rfl) ?_
            refine ww_gR (pc := 137) g (k := 3) cl_LM (pz rfl (by decide)) (by decide) (Or.inl kw_642) (f := 12803) (t := 111) rfl rfl rfl d_LM_count_137 ?_
            refine ww_gR (pc := 140) g (k := 4) cl_He (pz rfl (by decide)) (by decide) (Or.inl kw_643) (f := 14212) (t := 114) rfl rfl rfl d_LM_count_140 ?_
            refine ww_iload_n (pc := 143) g.1 d_LM_count_143 rfl (lv_at hl 1 rfl) ?_
            refine ww_ai (pc := 144) g (pz rfl (by decide)) rfl rfl d_LM_count_144 h fun v144 h => ?_
            exact ww_iretH (pc := 145) g h hR d_LM_count_145
          · refine ww_tableIn (pc := 31) (tgt := 136) g.1 d_LM_count_31 (by rw [c]; decide) (by rw [c]; decide) (by rw [c] <;> rfl) (by decide) ?_
            refine ww_aload_n (pc := 136) g.1 d_LM_count_136 rfl (lv_at hl 0 rfl) ?_
            refine ww_gR (pc := 137) g (k := 3) cl_LM (pz rfl (by decide)) (by decide) (Or.inl kw_642) (f := 12803) (t := 111) rfl rfl rfl d_LM_count_137 ?_
            refine ww_gR (pc := 140) g (k := 4) cl_He (pz rfl (by decide)) (by decide) (Or.inl kw_643) (f := 14212) (t := 114) rfl rfl rfl d_LM_count_140 ?_
            refine ww_iload_n (pc := 143) g.1 d_LM_count_143 rfl (lv_at hl 1 rfl) ?_
            refine ww_ai (pc := 144) g (pz rfl (by decide)) rfl rfl d_LM_count_144 h fun v144 h => ?_
            exact ww_iretH (pc := 145) g h hR d_LM_count_145
          · refine ww_tableIn (pc := 31) (tgt := 136) g.1 d_LM_count_31 (by rw [c]; decide) (by rw [c]; decide) (by rw [c] <;> rfl) (by decide) ?_
            refine ww_aload_n (pc := 136) g.1 d_LM_count_136 rfl (lv_at hl 0 rfl) ?_
            refine ww_gR (pc := 137) g (k := 3) cl_LM (pz rfl (by decide)) (by decide) (Or.inl kw_642) (f := 12803) (t := 111) rfl rfl rfl d_LM_count_137 ?_
            refine ww_gR (pc := 140) g (k := 4) cl_He (pz rfl (by decide)) (by decide) (Or.inl kw_643) (f := 14212) (t := 114) rfl rfl rfl d_LM_count_140 ?_
            refine ww_iload_n (pc := 143) g.1 d_LM_count_143 rfl (lv_at hl 1 rfl) ?_
            refine ww_ai (pc := 144) g (pz rfl (by decide)) rfl rfl d_LM_count_144 h fun v144 h => ?_
            exact ww_iretH (pc := 145) g h hR d_LM_count_145
          · refine ww_tableIn (pc := 31) (tgt := 136) g.1 d_LM_count_31 (by rw [c]; decide) (by rw [c]; decide) (by rw [c] <;> rfl) (by decide) ?_
            refine ww_aload_n (pc := 136) g.1 d_LM_count_136 rfl (lv_at hl 0 rfl) ?_
            refine ww_gR (pc := 137) g (k := 3) cl_LM (pz rfl (by decide)) (by decide) (Or.inl kw_642) (f := 12803) (t := 111) rfl rfl rfl d_LM_count_137 ?_
            refine ww_gR (pc := 140) g (k := 4) cl_He (pz rfl (by decide)) (by decide) (Or.inl kw_643) (f := 14212) (t := 114) rfl rfl rfl d_LM_count_140 ?_
            refine ww_iload_n (pc := 143) g.1 d_LM_count_143 rfl (lv_at hl 1 rfl) ?_
            refine ww_ai (pc := 144) g (pz rfl (by decide)) rfl rfl d_LM_count_144 h fun v144 h => ?_
            exact ww_iretH (pc := 145) g h hR d_LM_count_145
          · refine ww_tableIn (pc := 31) (tgt := 136) g.1 d_LM_count_31 (by rw [c]; decide) (by rw [c]; decide) (by rw [c] <;> rfl) (by decide) ?_
            refine ww_aload_n (pc := 136) g.1 d_LM_count_136 rfl (lv_at hl 0 rfl) ?_
            refine ww_gR (pc := 137) g (k := 3) cl_LM (pz rfl (by decide)) (by decide) (Or.inl kw_642) (f := 12803) (t := 111) rfl rfl rfl d_LM_count_137 ?_
            refine ww_gR (pc := 140) g (k := 4) cl_He (pz rfl (by decide)) (by decide) (Or.inl kw_643) (f := 14212) (t := 114) rfl rfl rfl d_LM_count_140 ?_
            refine ww_iload_n (pc := 143) g.1 d_LM_count_143 rfl (lv_at hl 1 rfl) ?_
            refine ww_ai (pc := 144) g (pz rfl (by decide)) rfl rfl d_LM_count_144 h fun v144 h => ?_
            exact ww_iretH (pc := 145) g h hR d_LM_count_145
          · refine ww_tableIn (pc := 31) (tgt := 136) g.1 d_LM_count_31 (by rw [c]; decide) (by rw [c]; decide) (by rw [c] <;> rfl) (by decide) ?_
            refine ww_aload_n (pc := 136) g.1 d_LM_count_136 rfl (lv_at hl 0 rfl) ?_
            refine ww_gR (pc := 137) g (k := 3) cl_LM (pz rfl (by decide)) (by decide) (Or.inl kw_642) (f := 12803) (t := 111) rfl rfl rfl d_LM_count_137 ?_
            refine ww_gR (pc := 140) g (k := 4) cl_He (pz rfl (by decide)) (by decide) (Or.inl kw_643) (f := 14212) (t := 114) rfl rfl rfl d_LM_count_140 ?_
            refine ww_iload_n (pc := 143) g.1 d_LM_count_143 rfl (lv_at hl 1 rfl) ?_
            refine ww_ai (pc := 144) g (pz rfl (by decide)) rfl rfl d_LM_count_144 h fun v144 h => ?_
            exact ww_iretH (pc := 145) g h hR d_LM_count_145
        · refine ww_iconst (pc := 28) g.1 (v := 0) d_LM_count_28 (by decide) ?_
          exact ww_iretH (pc := 29) g h hR d_LM_count_29
      · refine ww_aload_n (pc := 16) g.1 d_LM_count_16 rfl (lv_at hl 0 rfl) ?_
        refine ww_gI (pc := 17) g (k := 0) cl_LM (pz rfl (by decide)) (by decide) (Or.inl kw_644) (f := 12800) rfl rfl d_LM_count_17 h fun v17 h => ?_
        exact ww_iretH (pc := 20) g h hR d_LM_count_20
    · refine ww_iconst (pc := 10) g.1 (v := (-1)) d_LM_count_10 (by decide) ?_
      exact ww_iretH (pc := 11) g h hR d_LM_count_11

abbrev b_LM_putOnTape : ByteArray := prog_1_method_3_code
def y_LM_putOnTape : MethodName := ⟨R_LM, "putOnTape", "(I)V"⟩
abbrev w_LM_putOnTape : List Cond := .code y_LM_putOnTape b_LM_putOnTape 3 none :: wA
theorem k_LM_putOnTape : Cond.code y_LM_putOnTape b_LM_putOnTape 3 none ∈ wA := kinm (show _ ∈ tables_1 from (List.mem_append_right _ (List.mem_append_right _ (List.mem_append_left _ (List.mem_of_getElem? (l := tables_1_3) (i := 74) (by decide +kernel)))))) (by decide +kernel)
theorem d_LM_putOnTape_0 : decode b_LM_putOnTape 0 = .ok (.bipush 24, 2) := by decide +kernel
theorem d_LM_putOnTape_2 : decode b_LM_putOnTape 2 = .ok (.istore_n 2, 1) := by decide +kernel
theorem d_LM_putOnTape_3 : decode b_LM_putOnTape 3 = .ok (.iload_n 2, 1) := by decide +kernel
theorem d_LM_putOnTape_4 : decode b_LM_putOnTape 4 = .ok (.ifCond .lt 35, 3) := by decide +kernel
theorem d_LM_putOnTape_7 : decode b_LM_putOnTape 7 = .ok (.aload_n 0, 1) := by decide +kernel
theorem d_LM_putOnTape_8 : decode b_LM_putOnTape 8 = .ok (.getfield 10, 3) := by decide +kernel
theorem d_LM_putOnTape_11 : decode b_LM_putOnTape 11 = .ok (.getfield 70, 3) := by decide +kernel
theorem d_LM_putOnTape_14 : decode b_LM_putOnTape 14 = .ok (.aload_n 0, 1) := by decide +kernel
theorem d_LM_putOnTape_15 : decode b_LM_putOnTape 15 = .ok (.getfield 58, 3) := by decide +kernel
theorem d_LM_putOnTape_18 : decode b_LM_putOnTape 18 = .ok (.iload_n 1, 1) := by decide +kernel
theorem d_LM_putOnTape_19 : decode b_LM_putOnTape 19 = .ok (.iload_n 2, 1) := by decide +kernel
theorem d_LM_putOnTape_20 : decode b_LM_putOnTape 20 = .ok (.ishr, 1) := by decide +kernel
theorem d_LM_putOnTape_21 : decode b_LM_putOnTape 21 = .ok (.i2b, 1) := by decide +kernel
theorem d_LM_putOnTape_22 : decode b_LM_putOnTape 22 = .ok (.bastore, 1) := by decide +kernel
theorem d_LM_putOnTape_23 : decode b_LM_putOnTape 23 = .ok (.aload_n 0, 1) := by decide +kernel
theorem d_LM_putOnTape_24 : decode b_LM_putOnTape 24 = .ok (.dup, 1) := by decide +kernel
theorem d_LM_putOnTape_25 : decode b_LM_putOnTape 25 = .ok (.getfield 58, 3) := by decide +kernel
theorem d_LM_putOnTape_28 : decode b_LM_putOnTape 28 = .ok (.iconst 1, 1) := by decide +kernel
theorem d_LM_putOnTape_29 : decode b_LM_putOnTape 29 = .ok (.iadd, 1) := by decide +kernel
theorem d_LM_putOnTape_30 : decode b_LM_putOnTape 30 = .ok (.putfield 58, 3) := by decide +kernel
theorem d_LM_putOnTape_33 : decode b_LM_putOnTape 33 = .ok (.iinc 2 (-8), 3) := by decide +kernel
theorem d_LM_putOnTape_36 : decode b_LM_putOnTape 36 = .ok (.goto (-33), 3) := by decide +kernel
theorem d_LM_putOnTape_39 : decode b_LM_putOnTape 39 = .ok (.return_, 1) := by decide +kernel
theorem kw_648 : Cond.fieldLink R_LM 10 "LuaMachine" "chunk" "LLuaMachine$Chunk;" ∈ wA := kinm (show _ ∈ tables_1 from (List.mem_append_right _ (List.mem_append_left _ (List.mem_of_getElem? (l := tables_1_2) (i := 212) (by decide +kernel))))) (by decide +kernel)
theorem kw_649 : Cond.fieldLink R_LM 70 "LuaMachine$Chunk" "tape" "[B" ∈ wA := kinm (show _ ∈ tables_1 from (List.mem_append_left _ (List.mem_of_getElem? (l := tables_1_1) (i := 69) (by decide +kernel)))) (by decide +kernel)
theorem kw_650 : Cond.instanceMethod y_LM_putOnTape ∈ wA := kinm (show _ ∈ tables_1 from (List.mem_append_right _ (List.mem_append_right _ (List.mem_append_left _ (List.mem_of_getElem? (l := tables_1_3) (i := 73) (by decide +kernel)))))) (by decide +kernel)
theorem kw_651 : Cond.selects R_LM y_LM_putOnTape y_LM_putOnTape ∈ wA := kinp 1 (by decide +kernel) (by decide +kernel)
theorem cv_LM_putOnTape : CV y_LM_putOnTape b_LM_putOnTape 3 none 1 := ⟨kw_650, kw_651, kw_647, k_LM_putOnTape, by decide +kernel⟩
theorem lp_LM_putOnTape_L3 {X : Cx} {q : PL} (g : Gd X y_LM_putOnTape b_LM_putOnTape 3 none 0 0 R_LM) (x : Int32 × Int32) (s : S1) (o : ((Int32 × Int32) ⊕ ((Unit))) × S1) (h : M_LM_putOnTape_L3 x s = some o) (hR : (Sum.elim (fun y : Int32 × Int32 => ∀ ls : Array Slot, lv_has ls 3 [(0, .ref (q.1 100 0)), (1, .int y.1), (2, .int y.2)] → WW X q o.2 3 ls []) (fun y : Unit => ∀ ls : Array Slot, lv_has ls 3 [] → WW X q o.2 39 ls []) o.1)) : ∀ ls : Array Slot, lv_has ls 3 [(0, .ref (q.1 100 0)), (1, .int x.1), (2, .int x.2)] → WW X q s 3 ls [] := by
  intro ls hl
  unfold M_LM_putOnTape_L3 at h
  refine ww_iload_n (pc := 3) g.1 d_LM_putOnTape_3 rfl (lv_at hl 2 rfl) ?_
  refine ww_if_lt (pc := 4) (tgt := 39) g.1 d_LM_putOnTape_4 (by decide) h (fun c h => ?_) (fun c h => ?_)
  · rw [oR_eq h] at hR
    exact hR ls (lv_sub hl [] rfl)
  · refine ww_aload_n (pc := 7) g.1 d_LM_putOnTape_7 rfl (lv_at hl 0 rfl) ?_
    refine ww_gR (pc := 8) g (k := 2) cl_LM (pz rfl (by decide)) (by decide) (Or.inl kw_648) (f := 12802) (t := 101) rfl rfl rfl d_LM_putOnTape_8 ?_
    refine ww_gR (pc := 11) g (k := 6) cl_Ch (pz rfl (by decide)) (by decide) (Or.inl kw_649) (f := 12934) (t := 108) rfl rfl rfl d_LM_putOnTape_11 ?_
    refine ww_aload_n (pc := 14) g.1 d_LM_putOnTape_14 rfl (lv_at hl 0 rfl) ?_
    refine ww_gI (pc := 15) g (k := 0) cl_LM (pz rfl (by decide)) (by decide) (Or.inl kw_644) (f := 12800) rfl rfl d_LM_putOnTape_15 h fun v15 h => ?_
    refine ww_iload_n (pc := 18) g.1 d_LM_putOnTape_18 rfl (lv_at hl 1 rfl) ?_
    refine ww_iload_n (pc := 19) g.1 d_LM_putOnTape_19 rfl (lv_at hl 2 rfl) ?_
    refine ww_ishr (pc := 20) g.1 d_LM_putOnTape_20 ?_
    refine ww_i2b (pc := 21) g.1 (v := (x.1 >>> (x.2 &&& 31)).toInt8.toInt32) d_LM_putOnTape_21 rfl ?_
    refine ww_sb (pc := 22) g (pz rfl (by decide)) rfl rfl d_LM_putOnTape_22 h fun s hs h => ?_
    refine ww_aload_n (pc := 23) g.1 d_LM_putOnTape_23 rfl (lv_at hl 0 rfl) ?_
    refine ww_dup (pc := 24) g.1 d_LM_putOnTape_24 rfl ?_
    refine ww_gI (pc := 25) g (k := 0) cl_LM (pz rfl (by decide)) (by decide) (Or.inl kw_644) (f := 12800) rfl rfl d_LM_putOnTape_25 h fun v25 h => ?_
    refine ww_iconst (pc := 28) g.1 (v := 1) d_LM_putOnTape_28 (by decide) ?_
    refine ww_iadd (pc := 29) g.1 d_LM_putOnTape_29 ?_
    refine ww_pI (pc := 30) g (k := 0) cl_LM (pz rfl (by decide)) (by decide) (Or.inl kw_644) rfl (f := 12800) rfl rfl rfl rfl d_LM_putOnTape_30 h fun s hs h => ?_
    refine ww_iinc (pc := 33) g.1 (v := x.2 + (-8)) (lv' := [(2, .int (x.2 + (-8))), (0, .ref (q.1 100 0)), (1, .int x.1)]) d_LM_putOnTape_33 hl (k := 2) rfl (by rfl) (by decide) rfl fun ls hl => ?_
    refine ww_goto (pc := 36) (tgt := 3) g.1 d_LM_putOnTape_36 (by decide) ?_
    rw [oR_eq h] at hR
    exact hR ls (lv_sub hl [1, 2, 0] rfl)

theorem ct_LM_putOnTape {l : Launch} {P : PP} {q : PL} {s s' : S1} {l1 : Int32} {r : Unit} (h : M_LM_putOnTape l1 s = some (r, s')) : Ct l y_LM_putOnTape b_LM_putOnTape 3 none 0 0 P q s [.ref (q.1 100 0), .int l1] none q s' := by
  refine ct_of (by decide) (Nat.le_of_ble_eq_true rfl) fun X ls eP el g hR hl => ?_
  subst eP
  have hR : Rt X q ((r, s') : Unit × S1).2 none := hR
  have hl : lv_has ls 3 [(0, .ref (q.1 100 0)), (1, .int l1)] := hl
  generalize (r, s') = o at h hR
  unfold M_LM_putOnTape at h
  refine ww_bipush (pc := 0) g.1 (v := 24) d_LM_putOnTape_0 (by decide) ?_
  refine ww_istore_n (pc := 2) (i := 2) g.1 (lv' := [(2, .int 24), (0, .ref (q.1 100 0)), (1, .int l1)]) d_LM_putOnTape_2 rfl hl (by decide) rfl fun ls hl => ?_
  obtain ⟨e3, s1, hw, h⟩ := oB_of h
  refine oW_rule (Wh := fun (x : Int32 × Int32) (s : S1) => ∀ ls : Array Slot, lv_has ls 3 [(0, .ref (q.1 100 0)), (1, .int x.1), (2, .int x.2)] → WW X q s 3 ls []) (We := fun (e : (Unit)) (s : S1) => ∀ ls : Array Slot, lv_has ls 3 [] → WW X q s 39 ls []) (fun x s o hb hc => lp_LM_putOnTape_L3 (q := q) g x s o hb hc) hw ?_ ls (lv_sub hl [1, 2, 0] rfl)
  clear hw hl
  clear ls
  intro ls hl
  generalize s1 = s at h ⊢
  exact ww_vretH (pc := 39) g h hR d_LM_putOnTape_39

abbrev b_LM_end : ByteArray := prog_1_method_4_code
def y_LM_end : MethodName := ⟨R_LM, "end", "(I)I"⟩
abbrev w_LM_end : List Cond := .code y_LM_end b_LM_end 2 (some .int) :: wA
theorem k_LM_end : Cond.code y_LM_end b_LM_end 2 (some .int) ∈ wA := kinm (show _ ∈ tables_1 from (List.mem_append_right _ (List.mem_append_right _ (List.mem_append_left _ (List.mem_of_getElem? (l := tables_1_3) (i := 82) (by decide +kernel)))))) (by decide +kernel)
theorem d_LM_end_0 : decode b_LM_end 0 = .ok (.iload_n 1, 1) := by decide +kernel
theorem d_LM_end_1 : decode b_LM_end 1 = .ok (.ifCond .lt 11, 3) := by decide +kernel
theorem d_LM_end_4 : decode b_LM_end 4 = .ok (.iload_n 1, 1) := by decide +kernel
theorem d_LM_end_5 : decode b_LM_end 5 = .ok (.aload_n 0, 1) := by decide +kernel
theorem d_LM_end_6 : decode b_LM_end 6 = .ok (.getfield 58, 3) := by decide +kernel
theorem d_LM_end_9 : decode b_LM_end 9 = .ok (.if_icmp .le 11, 3) := by decide +kernel
theorem d_LM_end_12 : decode b_LM_end 12 = .ok (.new 74, 3) := by decide +kernel
theorem d_LM_end_15 : decode b_LM_end 15 = .ok (.dup, 1) := by decide +kernel
theorem d_LM_end_16 : decode b_LM_end 16 = .ok (.invokespecial 76, 3) := by decide +kernel
theorem d_LM_end_19 : decode b_LM_end 19 = .ok (.athrow, 1) := by decide +kernel
theorem d_LM_end_20 : decode b_LM_end 20 = .ok (.aload_n 0, 1) := by decide +kernel
theorem d_LM_end_21 : decode b_LM_end 21 = .ok (.iload_n 1, 1) := by decide +kernel
theorem d_LM_end_22 : decode b_LM_end 22 = .ok (.putfield 58, 3) := by decide +kernel
theorem d_LM_end_25 : decode b_LM_end 25 = .ok (.iload_n 1, 1) := by decide +kernel
theorem d_LM_end_26 : decode b_LM_end 26 = .ok (.ireturn, 1) := by decide +kernel
theorem kw_652 : Cond.instanceMethod y_LM_end ∈ wA := kinm (show _ ∈ tables_1 from (List.mem_append_right _ (List.mem_append_right _ (List.mem_append_left _ (List.mem_of_getElem? (l := tables_1_3) (i := 80) (by decide +kernel)))))) (by decide +kernel)
theorem kw_653 : Cond.selects R_LM y_LM_end y_LM_end ∈ wA := kinm (show _ ∈ tables_1 from (List.mem_append_right _ (List.mem_append_right _ (List.mem_append_left _ (List.mem_of_getElem? (l := tables_1_3) (i := 81) (by decide +kernel)))))) (by decide +kernel)
theorem cv_LM_end : CV y_LM_end b_LM_end 2 (some .int) 1 := ⟨kw_652, kw_653, kw_647, k_LM_end, by decide +kernel⟩
theorem ct_LM_end {l : Launch} {P : PP} {q : PL} {s s' : S1} {l1 : Int32} {r : Int32} (h : M_LM_end l1 s = some (r, s')) : Ct l y_LM_end b_LM_end 2 (some .int) 0 0 P q s [.ref (q.1 100 0), .int l1] (some (.int r)) q s' := by
  refine ct_of (by decide) (Nat.le_of_ble_eq_true rfl) fun X ls eP el g hR hl => ?_
  subst eP
  have hR : Rt X q ((r, s') : Int32 × S1).2 (some (.int ((r, s') : Int32 × S1).1)) := hR
  have hl : lv_has ls 2 [(0, .ref (q.1 100 0)), (1, .int l1)] := hl
  generalize (r, s') = o at h hR
  unfold M_LM_end at h
  refine ww_iload_n (pc := 0) g.1 d_LM_end_0 rfl (lv_at hl 1 rfl) ?_
  refine ww_if_lt (pc := 1) (tgt := 12) g.1 d_LM_end_1 (by decide) h (fun c h => ?_) (fun c h => ?_)
  · exact (oF_no h).elim
  · refine ww_iload_n (pc := 4) g.1 d_LM_end_4 rfl (lv_at hl 1 rfl) ?_
    refine ww_aload_n (pc := 5) g.1 d_LM_end_5 rfl (lv_at hl 0 rfl) ?_
    refine ww_gI (pc := 6) g (k := 0) cl_LM (pz rfl (by decide)) (by decide) (Or.inl kw_644) (f := 12800) rfl rfl d_LM_end_6 h fun v6 h => ?_
    refine ww_icmp_le (pc := 9) (tgt := 20) g.1 d_LM_end_9 (by decide) h (fun c h => ?_) (fun c h => ?_)
    · refine ww_aload_n (pc := 20) g.1 d_LM_end_20 rfl (lv_at hl 0 rfl) ?_
      refine ww_iload_n (pc := 21) g.1 d_LM_end_21 rfl (lv_at hl 1 rfl) ?_
      refine ww_pI (pc := 22) g (k := 0) cl_LM (pz rfl (by decide)) (by decide) (Or.inl kw_644) rfl (f := 12800) rfl rfl rfl rfl d_LM_end_22 h fun s hs h => ?_
      refine ww_iload_n (pc := 25) g.1 d_LM_end_25 rfl (lv_at hl 1 rfl) ?_
      exact ww_iretH (pc := 26) g h hR d_LM_end_26
    · exact (oF_no h).elim

abbrev b_Ch_begin : ByteArray := prog_3_method_3_code
def y_Ch_begin : MethodName := ⟨R_Ch, "begin", "(I)V"⟩
abbrev w_Ch_begin : List Cond := .code y_Ch_begin b_Ch_begin 2 none :: wA
theorem k_Ch_begin : Cond.code y_Ch_begin b_Ch_begin 2 none ∈ wA := kinm (show _ ∈ tables_1 from (List.mem_append_right _ (List.mem_append_right _ (List.mem_append_left _ (List.mem_of_getElem? (l := tables_1_3) (i := 113) (by decide +kernel)))))) (by decide +kernel)
theorem d_Ch_begin_0 : decode b_Ch_begin 0 = .ok (.aload_n 0, 1) := by decide +kernel
theorem d_Ch_begin_1 : decode b_Ch_begin 1 = .ok (.iload_n 1, 1) := by decide +kernel
theorem d_Ch_begin_2 : decode b_Ch_begin 2 = .ok (.putfield 60, 3) := by decide +kernel
theorem d_Ch_begin_5 : decode b_Ch_begin 5 = .ok (.aload_n 0, 1) := by decide +kernel
theorem d_Ch_begin_6 : decode b_Ch_begin 6 = .ok (.iconst 0, 1) := by decide +kernel
theorem d_Ch_begin_7 : decode b_Ch_begin 7 = .ok (.putfield 57, 3) := by decide +kernel
theorem d_Ch_begin_10 : decode b_Ch_begin 10 = .ok (.aload_n 0, 1) := by decide +kernel
theorem d_Ch_begin_11 : decode b_Ch_begin 11 = .ok (.iconst 0, 1) := by decide +kernel
theorem d_Ch_begin_12 : decode b_Ch_begin 12 = .ok (.putfield 72, 3) := by decide +kernel
theorem d_Ch_begin_15 : decode b_Ch_begin 15 = .ok (.aload_n 0, 1) := by decide +kernel
theorem d_Ch_begin_16 : decode b_Ch_begin 16 = .ok (.iconst (-1), 1) := by decide +kernel
theorem d_Ch_begin_17 : decode b_Ch_begin 17 = .ok (.putfield 45, 3) := by decide +kernel
theorem d_Ch_begin_20 : decode b_Ch_begin 20 = .ok (.aload_n 0, 1) := by decide +kernel
theorem d_Ch_begin_21 : decode b_Ch_begin 21 = .ok (.iconst 0, 1) := by decide +kernel
theorem d_Ch_begin_22 : decode b_Ch_begin 22 = .ok (.putfield 75, 3) := by decide +kernel
theorem d_Ch_begin_25 : decode b_Ch_begin 25 = .ok (.aload_n 0, 1) := by decide +kernel
theorem d_Ch_begin_26 : decode b_Ch_begin 26 = .ok (.iconst 0, 1) := by decide +kernel
theorem d_Ch_begin_27 : decode b_Ch_begin 27 = .ok (.putfield 78, 3) := by decide +kernel
theorem d_Ch_begin_30 : decode b_Ch_begin 30 = .ok (.aload_n 0, 1) := by decide +kernel
theorem d_Ch_begin_31 : decode b_Ch_begin 31 = .ok (.iconst 0, 1) := by decide +kernel
theorem d_Ch_begin_32 : decode b_Ch_begin 32 = .ok (.putfield 81, 3) := by decide +kernel
theorem d_Ch_begin_35 : decode b_Ch_begin 35 = .ok (.aload_n 0, 1) := by decide +kernel
theorem d_Ch_begin_36 : decode b_Ch_begin 36 = .ok (.iconst 0, 1) := by decide +kernel
theorem d_Ch_begin_37 : decode b_Ch_begin 37 = .ok (.putfield 84, 3) := by decide +kernel
theorem d_Ch_begin_40 : decode b_Ch_begin 40 = .ok (.return_, 1) := by decide +kernel
theorem kw_654 : Cond.fieldLink R_Ch 60 "LuaMachine$Chunk" "length" "I" ∈ wA := kinm (show _ ∈ tables_1 from (List.mem_append_left _ (List.mem_of_getElem? (l := tables_1_1) (i := 79) (by decide +kernel)))) (by decide +kernel)
theorem kw_655 : Cond.fieldLink R_Ch 57 "LuaMachine$Chunk" "at" "I" ∈ wA := kinm (show _ ∈ tables_1 from (List.mem_append_left _ (List.mem_of_getElem? (l := tables_1_1) (i := 80) (by decide +kernel)))) (by decide +kernel)
theorem kw_656 : Cond.fieldLink R_Ch 72 "LuaMachine$Chunk" "faultFound" "I" ∈ wA := kinm (show _ ∈ tables_1 from (List.mem_append_left _ (List.mem_of_getElem? (l := tables_1_1) (i := 81) (by decide +kernel)))) (by decide +kernel)
theorem kw_657 : Cond.fieldLink R_Ch 45 "LuaMachine$Chunk" "faultPlace" "I" ∈ wA := kinm (show _ ∈ tables_1 from (List.mem_append_left _ (List.mem_of_getElem? (l := tables_1_1) (i := 83) (by decide +kernel)))) (by decide +kernel)
theorem kw_658 : Cond.fieldLink R_Ch 75 "LuaMachine$Chunk" "prototypeCount" "I" ∈ wA := kinm (show _ ∈ tables_1 from (List.mem_append_left _ (List.mem_of_getElem? (l := tables_1_1) (i := 73) (by decide +kernel)))) (by decide +kernel)
theorem kw_659 : Cond.fieldLink R_Ch 78 "LuaMachine$Chunk" "constantCount" "I" ∈ wA := kinm (show _ ∈ tables_1 from (List.mem_append_left _ (List.mem_of_getElem? (l := tables_1_1) (i := 75) (by decide +kernel)))) (by decide +kernel)
theorem kw_660 : Cond.fieldLink R_Ch 81 "LuaMachine$Chunk" "codeCount" "I" ∈ wA := kinm (show _ ∈ tables_1 from (List.mem_append_left _ (List.mem_of_getElem? (l := tables_1_1) (i := 77) (by decide +kernel)))) (by decide +kernel)
theorem kw_661 : Cond.fieldLink R_Ch 84 "LuaMachine$Chunk" "upvalueCount" "I" ∈ wA := kinm (show _ ∈ tables_1 from (List.mem_append_left _ (List.mem_of_getElem? (l := tables_1_1) (i := 78) (by decide +kernel)))) (by decide +kernel)
theorem kw_662 : Cond.instanceMethod y_Ch_begin ∈ wA := kinm (show _ ∈ tables_1 from (List.mem_append_right _ (List.mem_append_right _ (List.mem_append_left _ (List.mem_of_getElem? (l := tables_1_3) (i := 112) (by decide +kernel)))))) (by decide +kernel)
theorem kw_663 : Cond.selects R_Ch y_Ch_begin y_Ch_begin ∈ wA := kinp 2 (by decide +kernel) (by decide +kernel)
theorem kw_664 : Cond.initialized R_Ch ∈ wA := kinm (show _ ∈ tables_1 from (List.mem_append_left _ (List.mem_of_getElem? (l := tables_1_1) (i := 2) (by decide +kernel)))) (by decide +kernel)
theorem cv_Ch_begin : CV y_Ch_begin b_Ch_begin 2 none 1 := ⟨kw_662, kw_663, kw_664, k_Ch_begin, by decide +kernel⟩
theorem ct_Ch_begin {l : Launch} {P : PP} {q : PL} {s s' : S1} {l1 : Int32} {r : Unit} (h : M_Ch_begin l1 s = some (r, s')) : Ct l y_Ch_begin b_Ch_begin 2 none 0 0 P q s [.ref (q.1 101 0), .int l1] none q s' := by
  refine ct_of (by decide) (Nat.le_of_ble_eq_true rfl) fun X ls eP el g hR hl => ?_
  subst eP
  have hR : Rt X q ((r, s') : Unit × S1).2 none := hR
  have hl : lv_has ls 2 [(0, .ref (q.1 101 0)), (1, .int l1)] := hl
  generalize (r, s') = o at h hR
  unfold M_Ch_begin at h
  refine ww_aload_n (pc := 0) g.1 d_Ch_begin_0 rfl (lv_at hl 0 rfl) ?_
  refine ww_iload_n (pc := 1) g.1 d_Ch_begin_1 rfl (lv_at hl 1 rfl) ?_
  refine ww_pI (pc := 2) g (k := 13) cl_Ch (pz rfl (by decide)) (by decide) (Or.inl kw_654) rfl (f := 12941) rfl rfl rfl rfl d_Ch_begin_2 h fun s hs h => ?_
  refine ww_aload_n (pc := 5) g.1 d_Ch_begin_5 rfl (lv_at hl 0 rfl) ?_
  refine ww_iconst (pc := 6) g.1 (v := 0) d_Ch_begin_6 (by decide) ?_
  refine ww_pI (pc := 7) g (k := 14) cl_Ch (pz rfl (by decide)) (by decide) (Or.inl kw_655) rfl (f := 12942) rfl rfl rfl rfl d_Ch_begin_7 h fun s hs h => ?_
  refine ww_aload_n (pc := 10) g.1 d_Ch_begin_10 rfl (lv_at hl 0 rfl) ?_
  refine ww_iconst (pc := 11) g.1 (v := 0) d_Ch_begin_11 (by decide) ?_
  refine ww_pI (pc := 12) g (k := 15) cl_Ch (pz rfl (by decide)) (by decide) (Or.inl kw_656) rfl (f := 12943) rfl rfl rfl rfl d_Ch_begin_12 h fun s hs h => ?_
  refine ww_aload_n (pc := 15) g.1 d_Ch_begin_15 rfl (lv_at hl 0 rfl) ?_
  refine ww_iconst (pc := 16) g.1 (v := (-1)) d_Ch_begin_16 (by decide) ?_
  refine ww_pI (pc := 17) g (k := 16) cl_Ch (pz rfl (by decide)) (by decide) (Or.inl kw_657) rfl (f := 12944) rfl rfl rfl rfl d_Ch_begin_17 h fun s hs h => ?_
  refine ww_aload_n (pc := 20) g.1 d_Ch_begin_20 rfl (lv_at hl 0 rfl) ?_
  refine ww_iconst (pc := 21) g.1 (v := 0) d_Ch_begin_21 (by decide) ?_
  refine ww_pI (pc := 22) g (k := 9) cl_Ch (pz rfl (by decide)) (by decide) (Or.inl kw_658) rfl (f := 12937) rfl rfl rfl rfl d_Ch_begin_22 h fun s hs h => ?_
  refine ww_aload_n (pc := 25) g.1 d_Ch_begin_25 rfl (lv_at hl 0 rfl) ?_
  refine ww_iconst (pc := 26) g.1 (v := 0) d_Ch_begin_26 (by decide) ?_
  refine ww_pI (pc := 27) g (k := 10) cl_Ch (pz rfl (by decide)) (by decide) (Or.inl kw_659) rfl (f := 12938) rfl rfl rfl rfl d_Ch_begin_27 h fun s hs h => ?_
  refine ww_aload_n (pc := 30) g.1 d_Ch_begin_30 rfl (lv_at hl 0 rfl) ?_
  refine ww_iconst (pc := 31) g.1 (v := 0) d_Ch_begin_31 (by decide) ?_
  refine ww_pI (pc := 32) g (k := 11) cl_Ch (pz rfl (by decide)) (by decide) (Or.inl kw_660) rfl (f := 12939) rfl rfl rfl rfl d_Ch_begin_32 h fun s hs h => ?_
  refine ww_aload_n (pc := 35) g.1 d_Ch_begin_35 rfl (lv_at hl 0 rfl) ?_
  refine ww_iconst (pc := 36) g.1 (v := 0) d_Ch_begin_36 (by decide) ?_
  refine ww_pI (pc := 37) g (k := 12) cl_Ch (pz rfl (by decide)) (by decide) (Or.inl kw_661) rfl (f := 12940) rfl rfl rfl rfl d_Ch_begin_37 h fun s hs h => ?_
  exact ww_vretH (pc := 40) g h hR d_Ch_begin_40

abbrev b_Ch_withoutFullOnes : ByteArray := prog_3_method_4_code
def y_Ch_withoutFullOnes : MethodName := ⟨R_Ch, "withoutFullOnes", "(I)I"⟩
abbrev w_Ch_withoutFullOnes : List Cond := .code y_Ch_withoutFullOnes b_Ch_withoutFullOnes 3 (some .int) :: wA
theorem k_Ch_withoutFullOnes : Cond.code y_Ch_withoutFullOnes b_Ch_withoutFullOnes 3 (some .int) ∈ wA := kinm (show _ ∈ tables_1 from (List.mem_append_right _ (List.mem_append_right _ (List.mem_append_left _ (List.mem_of_getElem? (l := tables_1_3) (i := 117) (by decide +kernel)))))) (by decide +kernel)
theorem d_Ch_withoutFullOnes_0 : decode b_Ch_withoutFullOnes 0 = .ok (.iload_n 1, 1) := by decide +kernel
theorem d_Ch_withoutFullOnes_1 : decode b_Ch_withoutFullOnes 1 = .ok (.istore_n 2, 1) := by decide +kernel
theorem d_Ch_withoutFullOnes_2 : decode b_Ch_withoutFullOnes 2 = .ok (.iload_n 2, 1) := by decide +kernel
theorem d_Ch_withoutFullOnes_3 : decode b_Ch_withoutFullOnes 3 = .ok (.ifCond .le 20, 3) := by decide +kernel
theorem d_Ch_withoutFullOnes_6 : decode b_Ch_withoutFullOnes 6 = .ok (.aload_n 0, 1) := by decide +kernel
theorem d_Ch_withoutFullOnes_7 : decode b_Ch_withoutFullOnes 7 = .ok (.getfield 42, 3) := by decide +kernel
theorem d_Ch_withoutFullOnes_10 : decode b_Ch_withoutFullOnes 10 = .ok (.iload_n 2, 1) := by decide +kernel
theorem d_Ch_withoutFullOnes_11 : decode b_Ch_withoutFullOnes 11 = .ok (.iconst 1, 1) := by decide +kernel
theorem d_Ch_withoutFullOnes_12 : decode b_Ch_withoutFullOnes 12 = .ok (.isub, 1) := by decide +kernel
theorem d_Ch_withoutFullOnes_13 : decode b_Ch_withoutFullOnes 13 = .ok (.iaload, 1) := by decide +kernel
theorem d_Ch_withoutFullOnes_14 : decode b_Ch_withoutFullOnes 14 = .ok (.ifCond .ne 9, 3) := by decide +kernel
theorem d_Ch_withoutFullOnes_17 : decode b_Ch_withoutFullOnes 17 = .ok (.iinc 2 (-1), 3) := by decide +kernel
theorem d_Ch_withoutFullOnes_20 : decode b_Ch_withoutFullOnes 20 = .ok (.goto (-18), 3) := by decide +kernel
theorem d_Ch_withoutFullOnes_23 : decode b_Ch_withoutFullOnes 23 = .ok (.iload_n 2, 1) := by decide +kernel
theorem d_Ch_withoutFullOnes_24 : decode b_Ch_withoutFullOnes 24 = .ok (.ireturn, 1) := by decide +kernel
theorem kw_665 : Cond.fieldLink R_Ch 42 "LuaMachine$Chunk" "left" "[I" ∈ wA := kinm (show _ ∈ tables_1 from (List.mem_append_left _ (List.mem_of_getElem? (l := tables_1_1) (i := 72) (by decide +kernel)))) (by decide +kernel)
theorem kw_666 : Cond.instanceMethod y_Ch_withoutFullOnes ∈ wA := kinm (show _ ∈ tables_1 from (List.mem_append_right _ (List.mem_append_right _ (List.mem_append_left _ (List.mem_of_getElem? (l := tables_1_3) (i := 116) (by decide +kernel)))))) (by decide +kernel)
theorem kw_667 : Cond.selects R_Ch y_Ch_withoutFullOnes y_Ch_withoutFullOnes ∈ wA := kinp 3 (by decide +kernel) (by decide +kernel)
theorem cv_Ch_withoutFullOnes : CV y_Ch_withoutFullOnes b_Ch_withoutFullOnes 3 (some .int) 1 := ⟨kw_666, kw_667, kw_664, k_Ch_withoutFullOnes, by decide +kernel⟩
theorem lp_Ch_withoutFullOnes_L2 {X : Cx} {q : PL} (g : Gd X y_Ch_withoutFullOnes b_Ch_withoutFullOnes 3 (some .int) 0 0 R_Ch) (x : Int32) (s : S1) (o : ((Int32) ⊕ ((Int32))) × S1) (h : M_Ch_withoutFullOnes_L2 x s = some o) (hR : (Sum.elim (fun y : Int32 => ∀ ls : Array Slot, lv_has ls 3 [(0, .ref (q.1 101 0)), (2, .int y)] → WW X q o.2 2 ls []) (fun y : Int32 => ∀ ls : Array Slot, lv_has ls 3 [(2, .int y)] → WW X q o.2 23 ls []) o.1)) : ∀ ls : Array Slot, lv_has ls 3 [(0, .ref (q.1 101 0)), (2, .int x)] → WW X q s 2 ls [] := by
  intro ls hl
  unfold M_Ch_withoutFullOnes_L2 at h
  refine ww_iload_n (pc := 2) g.1 d_Ch_withoutFullOnes_2 rfl (lv_at hl 1 rfl) ?_
  refine ww_if_le (pc := 3) (tgt := 23) g.1 d_Ch_withoutFullOnes_3 (by decide) h (fun c h => ?_) (fun c h => ?_)
  · rw [oR_eq h] at hR
    exact hR ls (lv_sub hl [1] rfl)
  · refine ww_aload_n (pc := 6) g.1 d_Ch_withoutFullOnes_6 rfl (lv_at hl 0 rfl) ?_
    refine ww_gR (pc := 7) g (k := 8) cl_Ch (pz rfl (by decide)) (by decide) (Or.inl kw_665) (f := 12936) (t := 110) rfl rfl rfl d_Ch_withoutFullOnes_7 ?_
    refine ww_iload_n (pc := 10) g.1 d_Ch_withoutFullOnes_10 rfl (lv_at hl 1 rfl) ?_
    refine ww_iconst (pc := 11) g.1 (v := 1) d_Ch_withoutFullOnes_11 (by decide) ?_
    refine ww_isub (pc := 12) g.1 d_Ch_withoutFullOnes_12 ?_
    refine ww_ai (pc := 13) g (pz rfl (by decide)) rfl rfl d_Ch_withoutFullOnes_13 h fun v13 h => ?_
    refine ww_if_ne (pc := 14) (tgt := 23) g.1 d_Ch_withoutFullOnes_14 (by decide) h (fun c h => ?_) (fun c h => ?_)
    · rw [oR_eq h] at hR
      exact hR ls (lv_sub hl [1] rfl)
    · refine ww_iinc (pc := 17) g.1 (v := x + (-1)) (lv' := [(2, .int (x + (-1))), (0, .ref (q.1 101 0))]) d_Ch_withoutFullOnes_17 hl (k := 1) rfl (by rfl) (by decide) rfl fun ls hl => ?_
      refine ww_goto (pc := 20) (tgt := 2) g.1 d_Ch_withoutFullOnes_20 (by decide) ?_
      rw [oR_eq h] at hR
      exact hR ls (lv_sub hl [1, 0] rfl)

theorem ct_Ch_withoutFullOnes {l : Launch} {P : PP} {q : PL} {s s' : S1} {l1 : Int32} {r : Int32} (h : M_Ch_withoutFullOnes l1 s = some (r, s')) : Ct l y_Ch_withoutFullOnes b_Ch_withoutFullOnes 3 (some .int) 0 0 P q s [.ref (q.1 101 0), .int l1] (some (.int r)) q s' := by
  refine ct_of (by decide) (Nat.le_of_ble_eq_true rfl) fun X ls eP el g hR hl => ?_
  subst eP
  have hR : Rt X q ((r, s') : Int32 × S1).2 (some (.int ((r, s') : Int32 × S1).1)) := hR
  have hl : lv_has ls 3 [(0, .ref (q.1 101 0)), (1, .int l1)] := hl
  generalize (r, s') = o at h hR
  unfold M_Ch_withoutFullOnes at h
  refine ww_iload_n (pc := 0) g.1 d_Ch_withoutFullOnes_0 rfl (lv_at hl 1 rfl) ?_
  refine ww_istore_n (pc := 1) (i := 2) g.1 (lv' := [(2, .int l1), (0, .ref (q.1 101 0)), (1, .int l1)]) d_Ch_withoutFullOnes_1 rfl hl (by decide) rfl fun ls hl => ?_
  obtain ⟨e2, s1, hw, h⟩ := oB_of h
  refine oW_rule (Wh := fun (x : Int32) (s : S1) => ∀ ls : Array Slot, lv_has ls 3 [(0, .ref (q.1 101 0)), (2, .int x)] → WW X q s 2 ls []) (We := fun (e : (Int32)) (s : S1) => ∀ ls : Array Slot, lv_has ls 3 [(2, .int e)] → WW X q s 23 ls []) (fun x s o hb hc => lp_Ch_withoutFullOnes_L2 (q := q) g x s o hb hc) hw ?_ ls (lv_sub hl [1, 0] rfl)
  clear hw hl
  clear ls
  intro ls hl
  generalize s1 = s at h ⊢
  refine ww_iload_n (pc := 23) g.1 d_Ch_withoutFullOnes_23 rfl (lv_at hl 0 rfl) ?_
  exact ww_iretH (pc := 24) g h hR d_Ch_withoutFullOnes_24

abbrev b_Ch_refuse : ByteArray := prog_3_method_5_code
def y_Ch_refuse : MethodName := ⟨R_Ch, "refuse", "(II)Z"⟩
abbrev w_Ch_refuse : List Cond := .code y_Ch_refuse b_Ch_refuse 3 (some .boolean) :: wA
theorem k_Ch_refuse : Cond.code y_Ch_refuse b_Ch_refuse 3 (some .boolean) ∈ wA := kinm (show _ ∈ tables_1 from (List.mem_append_right _ (List.mem_append_right _ (List.mem_append_left _ (List.mem_of_getElem? (l := tables_1_3) (i := 121) (by decide +kernel)))))) (by decide +kernel)
theorem d_Ch_refuse_0 : decode b_Ch_refuse 0 = .ok (.aload_n 0, 1) := by decide +kernel
theorem d_Ch_refuse_1 : decode b_Ch_refuse 1 = .ok (.iload_n 1, 1) := by decide +kernel
theorem d_Ch_refuse_2 : decode b_Ch_refuse 2 = .ok (.putfield 72, 3) := by decide +kernel
theorem d_Ch_refuse_5 : decode b_Ch_refuse 5 = .ok (.aload_n 0, 1) := by decide +kernel
theorem d_Ch_refuse_6 : decode b_Ch_refuse 6 = .ok (.iload_n 2, 1) := by decide +kernel
theorem d_Ch_refuse_7 : decode b_Ch_refuse 7 = .ok (.putfield 45, 3) := by decide +kernel
theorem d_Ch_refuse_10 : decode b_Ch_refuse 10 = .ok (.iconst 0, 1) := by decide +kernel
theorem d_Ch_refuse_11 : decode b_Ch_refuse 11 = .ok (.ireturn, 1) := by decide +kernel
theorem kw_668 : Cond.instanceMethod y_Ch_refuse ∈ wA := kinm (show _ ∈ tables_1 from (List.mem_append_right _ (List.mem_append_right _ (List.mem_append_left _ (List.mem_of_getElem? (l := tables_1_3) (i := 120) (by decide +kernel)))))) (by decide +kernel)
theorem kw_669 : Cond.selects R_Ch y_Ch_refuse y_Ch_refuse ∈ wA := kinp 4 (by decide +kernel) (by decide +kernel)
theorem cv_Ch_refuse : CV y_Ch_refuse b_Ch_refuse 3 (some .boolean) 2 := ⟨kw_668, kw_669, kw_664, k_Ch_refuse, by decide +kernel⟩
theorem ct_Ch_refuse {l : Launch} {P : PP} {q : PL} {s s' : S1} {l1 : Int32} {l2 : Int32} {r : Int32} (h : M_Ch_refuse l1 l2 s = some (r, s')) : Ct l y_Ch_refuse b_Ch_refuse 3 (some .boolean) 0 0 P q s [.ref (q.1 101 0), .int l1, .int l2] (some (.int r)) q s' := by
  refine ct_of (by decide) (Nat.le_of_ble_eq_true rfl) fun X ls eP el g hR hl => ?_
  subst eP
  have hR : Rt X q ((r, s') : Int32 × S1).2 (some (.int ((r, s') : Int32 × S1).1)) := hR
  have hl : lv_has ls 3 [(0, .ref (q.1 101 0)), (1, .int l1), (2, .int l2)] := hl
  generalize (r, s') = o at h hR
  unfold M_Ch_refuse at h
  refine ww_aload_n (pc := 0) g.1 d_Ch_refuse_0 rfl (lv_at hl 0 rfl) ?_
  refine ww_iload_n (pc := 1) g.1 d_Ch_refuse_1 rfl (lv_at hl 1 rfl) ?_
  refine ww_pI (pc := 2) g (k := 15) cl_Ch (pz rfl (by decide)) (by decide) (Or.inl kw_656) rfl (f := 12943) rfl rfl rfl rfl d_Ch_refuse_2 h fun s hs h => ?_
  refine ww_aload_n (pc := 5) g.1 d_Ch_refuse_5 rfl (lv_at hl 0 rfl) ?_
  refine ww_iload_n (pc := 6) g.1 d_Ch_refuse_6 rfl (lv_at hl 2 rfl) ?_
  refine ww_pI (pc := 7) g (k := 16) cl_Ch (pz rfl (by decide)) (by decide) (Or.inl kw_657) rfl (f := 12944) rfl rfl rfl rfl d_Ch_refuse_7 h fun s hs h => ?_
  refine ww_iconst (pc := 10) g.1 (v := 0) d_Ch_refuse_10 (by decide) ?_
  exact ww_zretH (pc := 11) g h hR (Or.inl rfl) d_Ch_refuse_11

abbrev b_Ch_readNumber : ByteArray := prog_3_method_7_code
def y_Ch_readNumber : MethodName := ⟨R_Ch, "readNumber", "(I)I"⟩
abbrev w_Ch_readNumber : List Cond := .code y_Ch_readNumber b_Ch_readNumber 4 (some .int) :: wA
theorem k_Ch_readNumber : Cond.code y_Ch_readNumber b_Ch_readNumber 4 (some .int) ∈ wA := kinm (show _ ∈ tables_1 from (List.mem_append_right _ (List.mem_append_right _ (List.mem_append_left _ (List.mem_of_getElem? (l := tables_1_3) (i := 188) (by decide +kernel)))))) (by decide +kernel)
theorem d_Ch_readNumber_0 : decode b_Ch_readNumber 0 = .ok (.aload_n 0, 1) := by decide +kernel
theorem d_Ch_readNumber_1 : decode b_Ch_readNumber 1 = .ok (.getfield 57, 3) := by decide +kernel
theorem d_Ch_readNumber_4 : decode b_Ch_readNumber 4 = .ok (.iload_n 1, 1) := by decide +kernel
theorem d_Ch_readNumber_5 : decode b_Ch_readNumber 5 = .ok (.iadd, 1) := by decide +kernel
theorem d_Ch_readNumber_6 : decode b_Ch_readNumber 6 = .ok (.aload_n 0, 1) := by decide +kernel
theorem d_Ch_readNumber_7 : decode b_Ch_readNumber 7 = .ok (.getfield 60, 3) := by decide +kernel
theorem d_Ch_readNumber_10 : decode b_Ch_readNumber 10 = .ok (.if_icmp .le 15, 3) := by decide +kernel
theorem d_Ch_readNumber_13 : decode b_Ch_readNumber 13 = .ok (.aload_n 0, 1) := by decide +kernel
theorem d_Ch_readNumber_14 : decode b_Ch_readNumber 14 = .ok (.iconst 1, 1) := by decide +kernel
theorem d_Ch_readNumber_15 : decode b_Ch_readNumber 15 = .ok (.aload_n 0, 1) := by decide +kernel
theorem d_Ch_readNumber_16 : decode b_Ch_readNumber 16 = .ok (.getfield 57, 3) := by decide +kernel
theorem d_Ch_readNumber_19 : decode b_Ch_readNumber 19 = .ok (.invokevirtual 63, 3) := by decide +kernel
theorem d_Ch_readNumber_22 : decode b_Ch_readNumber 22 = .ok (.pop, 1) := by decide +kernel
theorem d_Ch_readNumber_23 : decode b_Ch_readNumber 23 = .ok (.iconst (-1), 1) := by decide +kernel
theorem d_Ch_readNumber_24 : decode b_Ch_readNumber 24 = .ok (.ireturn, 1) := by decide +kernel
theorem d_Ch_readNumber_25 : decode b_Ch_readNumber 25 = .ok (.iconst 0, 1) := by decide +kernel
theorem d_Ch_readNumber_26 : decode b_Ch_readNumber 26 = .ok (.istore_n 2, 1) := by decide +kernel
theorem d_Ch_readNumber_27 : decode b_Ch_readNumber 27 = .ok (.iconst 0, 1) := by decide +kernel
theorem d_Ch_readNumber_28 : decode b_Ch_readNumber 28 = .ok (.istore_n 3, 1) := by decide +kernel
theorem d_Ch_readNumber_29 : decode b_Ch_readNumber 29 = .ok (.iload_n 3, 1) := by decide +kernel
theorem d_Ch_readNumber_30 : decode b_Ch_readNumber 30 = .ok (.iload_n 1, 1) := by decide +kernel
theorem d_Ch_readNumber_31 : decode b_Ch_readNumber 31 = .ok (.if_icmp .ge 30, 3) := by decide +kernel
theorem d_Ch_readNumber_34 : decode b_Ch_readNumber 34 = .ok (.iload_n 2, 1) := by decide +kernel
theorem d_Ch_readNumber_35 : decode b_Ch_readNumber 35 = .ok (.bipush 8, 2) := by decide +kernel
theorem d_Ch_readNumber_37 : decode b_Ch_readNumber 37 = .ok (.ishl, 1) := by decide +kernel
theorem d_Ch_readNumber_38 : decode b_Ch_readNumber 38 = .ok (.aload_n 0, 1) := by decide +kernel
theorem d_Ch_readNumber_39 : decode b_Ch_readNumber 39 = .ok (.getfield 36, 3) := by decide +kernel
theorem d_Ch_readNumber_42 : decode b_Ch_readNumber 42 = .ok (.aload_n 0, 1) := by decide +kernel
theorem d_Ch_readNumber_43 : decode b_Ch_readNumber 43 = .ok (.getfield 57, 3) := by decide +kernel
theorem d_Ch_readNumber_46 : decode b_Ch_readNumber 46 = .ok (.iload_n 3, 1) := by decide +kernel
theorem d_Ch_readNumber_47 : decode b_Ch_readNumber 47 = .ok (.iadd, 1) := by decide +kernel
theorem d_Ch_readNumber_48 : decode b_Ch_readNumber 48 = .ok (.baload, 1) := by decide +kernel
theorem d_Ch_readNumber_49 : decode b_Ch_readNumber 49 = .ok (.sipush 255, 3) := by decide +kernel
theorem d_Ch_readNumber_52 : decode b_Ch_readNumber 52 = .ok (.iand, 1) := by decide +kernel
theorem d_Ch_readNumber_53 : decode b_Ch_readNumber 53 = .ok (.ior, 1) := by decide +kernel
theorem d_Ch_readNumber_54 : decode b_Ch_readNumber 54 = .ok (.istore_n 2, 1) := by decide +kernel
theorem d_Ch_readNumber_55 : decode b_Ch_readNumber 55 = .ok (.iinc 3 1, 3) := by decide +kernel
theorem d_Ch_readNumber_58 : decode b_Ch_readNumber 58 = .ok (.goto (-29), 3) := by decide +kernel
theorem d_Ch_readNumber_61 : decode b_Ch_readNumber 61 = .ok (.aload_n 0, 1) := by decide +kernel
theorem d_Ch_readNumber_62 : decode b_Ch_readNumber 62 = .ok (.dup, 1) := by decide +kernel
theorem d_Ch_readNumber_63 : decode b_Ch_readNumber 63 = .ok (.getfield 57, 3) := by decide +kernel
theorem d_Ch_readNumber_66 : decode b_Ch_readNumber 66 = .ok (.iload_n 1, 1) := by decide +kernel
theorem d_Ch_readNumber_67 : decode b_Ch_readNumber 67 = .ok (.iadd, 1) := by decide +kernel
theorem d_Ch_readNumber_68 : decode b_Ch_readNumber 68 = .ok (.putfield 57, 3) := by decide +kernel
theorem d_Ch_readNumber_71 : decode b_Ch_readNumber 71 = .ok (.iload_n 2, 1) := by decide +kernel
theorem d_Ch_readNumber_72 : decode b_Ch_readNumber 72 = .ok (.ireturn, 1) := by decide +kernel
theorem kw_670 : Cond.fieldLink R_Ch 36 "LuaMachine$Chunk" "tape" "[B" ∈ wA := kinm (show _ ∈ tables_1 from (List.mem_append_left _ (List.mem_of_getElem? (l := tables_1_1) (i := 68) (by decide +kernel)))) (by decide +kernel)
theorem kw_671 : Cond.methodLink R_Ch 63 y_Ch_refuse ∈ wA := kinm (show _ ∈ tables_1 from (List.mem_append_right _ (List.mem_append_right _ (List.mem_append_left _ (List.mem_of_getElem? (l := tables_1_3) (i := 118) (by decide +kernel)))))) (by decide +kernel)
theorem kw_672 : Cond.instanceMethod y_Ch_readNumber ∈ wA := kinm (show _ ∈ tables_1 from (List.mem_append_right _ (List.mem_append_right _ (List.mem_append_left _ (List.mem_of_getElem? (l := tables_1_3) (i := 187) (by decide +kernel)))))) (by decide +kernel)
theorem kw_673 : Cond.selects R_Ch y_Ch_readNumber y_Ch_readNumber ∈ wA := kinp 7 (by decide +kernel) (by decide +kernel)
theorem cv_Ch_readNumber : CV y_Ch_readNumber b_Ch_readNumber 4 (some .int) 1 := ⟨kw_672, kw_673, kw_664, k_Ch_readNumber, by decide +kernel⟩
theorem lp_Ch_readNumber_L29 {X : Cx} {q : PL} (g : Gd X y_Ch_readNumber b_Ch_readNumber 4 (some .int) 1 22 R_Ch) (x : Int32 × Int32 × Int32) (s : S1) (o : ((Int32 × Int32 × Int32) ⊕ ((Int32 × Int32))) × S1) (h : M_Ch_readNumber_L29 x s = some o) (hR : (Sum.elim (fun y : Int32 × Int32 × Int32 => ∀ ls : Array Slot, lv_has ls 4 [(0, .ref (q.1 101 0)), (1, .int y.1), (2, .int y.2.1), (3, .int y.2.2)] → WW X q o.2 29 ls []) (fun y : Int32 × Int32 => ∀ ls : Array Slot, lv_has ls 4 [(0, .ref (q.1 101 0)), (1, .int y.1), (2, .int y.2)] → WW X q o.2 61 ls []) o.1)) : ∀ ls : Array Slot, lv_has ls 4 [(0, .ref (q.1 101 0)), (1, .int x.1), (2, .int x.2.1), (3, .int x.2.2)] → WW X q s 29 ls [] := by
  intro ls hl
  unfold M_Ch_readNumber_L29 at h
  refine ww_iload_n (pc := 29) g.1 d_Ch_readNumber_29 rfl (lv_at hl 3 rfl) ?_
  refine ww_iload_n (pc := 30) g.1 d_Ch_readNumber_30 rfl (lv_at hl 1 rfl) ?_
  refine ww_icmp_ge (pc := 31) (tgt := 61) g.1 d_Ch_readNumber_31 (by decide) h (fun c h => ?_) (fun c h => ?_)
  · rw [oR_eq h] at hR
    exact hR ls (lv_sub hl [0, 1, 2] rfl)
  · refine ww_iload_n (pc := 34) g.1 d_Ch_readNumber_34 rfl (lv_at hl 2 rfl) ?_
    refine ww_bipush (pc := 35) g.1 (v := 8) d_Ch_readNumber_35 (by decide) ?_
    refine ww_ishl (pc := 37) g.1 d_Ch_readNumber_37 ?_
    refine ww_aload_n (pc := 38) g.1 d_Ch_readNumber_38 rfl (lv_at hl 0 rfl) ?_
    refine ww_gR (pc := 39) g (k := 6) cl_Ch (pz rfl (by decide)) (by decide) (Or.inl kw_670) (f := 12934) (t := 108) rfl rfl rfl d_Ch_readNumber_39 ?_
    refine ww_aload_n (pc := 42) g.1 d_Ch_readNumber_42 rfl (lv_at hl 0 rfl) ?_
    refine ww_gI (pc := 43) g (k := 14) cl_Ch (pz rfl (by decide)) (by decide) (Or.inl kw_655) (f := 12942) rfl rfl d_Ch_readNumber_43 h fun v43 h => ?_
    refine ww_iload_n (pc := 46) g.1 d_Ch_readNumber_46 rfl (lv_at hl 3 rfl) ?_
    refine ww_iadd (pc := 47) g.1 d_Ch_readNumber_47 ?_
    refine ww_ab (pc := 48) g (pz rfl (by decide)) rfl rfl d_Ch_readNumber_48 h fun v48 h => ?_
    refine ww_sipush (pc := 49) g.1 (v := 255) d_Ch_readNumber_49 (by decide) ?_
    refine ww_iand (pc := 52) g.1 d_Ch_readNumber_52 ?_
    refine ww_ior (pc := 53) g.1 d_Ch_readNumber_53 ?_
    refine ww_leti h fun l2_54 h => ?_
    refine ww_istore_n (pc := 54) (i := 2) g.1 (lv' := [(2, .int l2_54), (0, .ref (q.1 101 0)), (1, .int x.1), (3, .int x.2.2)]) d_Ch_readNumber_54 rfl hl (by decide) rfl fun ls hl => ?_
    refine ww_iinc (pc := 55) g.1 (v := x.2.2 + 1) (lv' := [(3, .int (x.2.2 + 1)), (2, .int l2_54), (0, .ref (q.1 101 0)), (1, .int x.1)]) d_Ch_readNumber_55 hl (k := 3) rfl (by rfl) (by decide) rfl fun ls hl => ?_
    refine ww_goto (pc := 58) (tgt := 29) g.1 d_Ch_readNumber_58 (by decide) ?_
    rw [oR_eq h] at hR
    exact hR ls (lv_sub hl [2, 3, 1, 0] rfl)

theorem ct_Ch_readNumber {l : Launch} {P : PP} {q : PL} {s s' : S1} {l1 : Int32} {r : Int32} (h : M_Ch_readNumber l1 s = some (r, s')) : Ct l y_Ch_readNumber b_Ch_readNumber 4 (some .int) 1 22 P q s [.ref (q.1 101 0), .int l1] (some (.int r)) q s' := by
  refine ct_of (by decide) (Nat.le_of_ble_eq_true rfl) fun X ls eP el g hR hl => ?_
  subst eP
  have hR : Rt X q ((r, s') : Int32 × S1).2 (some (.int ((r, s') : Int32 × S1).1)) := hR
  have hl : lv_has ls 4 [(0, .ref (q.1 101 0)), (1, .int l1)] := hl
  generalize (r, s') = o at h hR
  unfold M_Ch_readNumber at h
  refine ww_aload_n (pc := 0) g.1 d_Ch_readNumber_0 rfl (lv_at hl 0 rfl) ?_
  refine ww_gI (pc := 1) g (k := 14) cl_Ch (pz rfl (by decide)) (by decide) (Or.inl kw_655) (f := 12942) rfl rfl d_Ch_readNumber_1 h fun v1 h => ?_
  refine ww_iload_n (pc := 4) g.1 d_Ch_readNumber_4 rfl (lv_at hl 1 rfl) ?_
  refine ww_iadd (pc := 5) g.1 d_Ch_readNumber_5 ?_
  refine ww_aload_n (pc := 6) g.1 d_Ch_readNumber_6 rfl (lv_at hl 0 rfl) ?_
  refine ww_gI (pc := 7) g (k := 13) cl_Ch (pz rfl (by decide)) (by decide) (Or.inl kw_654) (f := 12941) rfl rfl d_Ch_readNumber_7 h fun v7 h => ?_
  refine ww_icmp_le (pc := 10) (tgt := 25) g.1 d_Ch_readNumber_10 (by decide) h (fun c h => ?_) (fun c h => ?_)
  · refine ww_iconst (pc := 25) g.1 (v := 0) d_Ch_readNumber_25 (by decide) ?_
    refine ww_istore_n (pc := 26) (i := 2) g.1 (lv' := [(2, .int 0), (0, .ref (q.1 101 0)), (1, .int l1)]) d_Ch_readNumber_26 rfl hl (by decide) rfl fun ls hl => ?_
    refine ww_iconst (pc := 27) g.1 (v := 0) d_Ch_readNumber_27 (by decide) ?_
    refine ww_istore_n (pc := 28) (i := 3) g.1 (lv' := [(3, .int 0), (2, .int 0), (0, .ref (q.1 101 0)), (1, .int l1)]) d_Ch_readNumber_28 rfl hl (by decide) rfl fun ls hl => ?_
    obtain ⟨e29, s1, hw, h⟩ := oB_of h
    refine oW_rule (Wh := fun (x : Int32 × Int32 × Int32) (s : S1) => ∀ ls : Array Slot, lv_has ls 4 [(0, .ref (q.1 101 0)), (1, .int x.1), (2, .int x.2.1), (3, .int x.2.2)] → WW X q s 29 ls []) (We := fun (e : (Int32 × Int32)) (s : S1) => ∀ ls : Array Slot, lv_has ls 4 [(0, .ref (q.1 101 0)), (1, .int e.1), (2, .int e.2)] → WW X q s 61 ls []) (fun x s o hb hc => lp_Ch_readNumber_L29 (q := q) g x s o hb hc) hw ?_ ls (lv_sub hl [2, 3, 1, 0] rfl)
    clear hw hl
    clear ls
    intro ls hl
    generalize s1 = s at h ⊢
    refine ww_aload_n (pc := 61) g.1 d_Ch_readNumber_61 rfl (lv_at hl 0 rfl) ?_
    refine ww_dup (pc := 62) g.1 d_Ch_readNumber_62 rfl ?_
    refine ww_gI (pc := 63) g (k := 14) cl_Ch (pz rfl (by decide)) (by decide) (Or.inl kw_655) (f := 12942) rfl rfl d_Ch_readNumber_63 h fun v63 h => ?_
    refine ww_iload_n (pc := 66) g.1 d_Ch_readNumber_66 rfl (lv_at hl 1 rfl) ?_
    refine ww_iadd (pc := 67) g.1 d_Ch_readNumber_67 ?_
    refine ww_pI (pc := 68) g (k := 14) cl_Ch (pz rfl (by decide)) (by decide) (Or.inl kw_655) rfl (f := 12942) rfl rfl rfl rfl d_Ch_readNumber_68 h fun s hs h => ?_
    refine ww_iload_n (pc := 71) g.1 d_Ch_readNumber_71 rfl (lv_at hl 2 rfl) ?_
    exact ww_iretH (pc := 72) g h hR d_Ch_readNumber_72
  · refine ww_aload_n (pc := 13) g.1 d_Ch_readNumber_13 rfl (lv_at hl 0 rfl) ?_
    refine ww_iconst (pc := 14) g.1 (v := 1) d_Ch_readNumber_14 (by decide) ?_
    refine ww_aload_n (pc := 15) g.1 d_Ch_readNumber_15 rfl (lv_at hl 0 rfl) ?_
    refine ww_gI (pc := 16) g (k := 14) cl_Ch (pz rfl (by decide)) (by decide) (Or.inl kw_655) (f := 12942) rfl rfl d_Ch_readNumber_16 h fun v16 h => ?_
    obtain ⟨v19, s, hc19, h⟩ := oB_of h
    refine ww_callV (pc := 19) (rest := []) g cv_Ch_refuse (Or.inl kw_671) cl_Ch (pz rfl (by decide)) (ct_Ch_refuse hc19) ⟨by decide, by decide⟩ rfl hl.1 (Nat.le_of_ble_eq_true rfl) d_Ch_readNumber_19 rfl (?_)
    refine ww_st (st' := [.int v19]) rfl ?_
    refine ww_pop (pc := 22) g.1 d_Ch_readNumber_22 rfl ?_
    refine ww_iconst (pc := 23) g.1 (v := (-1)) d_Ch_readNumber_23 (by decide) ?_
    exact ww_iretH (pc := 24) g h hR d_Ch_readNumber_24

abbrev b_Ch_mostOf : ByteArray := prog_3_method_10_code
def y_Ch_mostOf : MethodName := ⟨R_Ch, "mostOf", "(LLuaMachine$Prototype;I)I"⟩
abbrev w_Ch_mostOf : List Cond := .code y_Ch_mostOf b_Ch_mostOf 2 (some .int) :: wA
theorem k_Ch_mostOf : Cond.code y_Ch_mostOf b_Ch_mostOf 2 (some .int) ∈ wA := kinm (show _ ∈ tables_1 from (List.mem_append_right _ (List.mem_append_right _ (List.mem_append_left _ (List.mem_of_getElem? (l := tables_1_3) (i := 195) (by decide +kernel)))))) (by decide +kernel)
theorem d_Ch_mostOf_0 : decode b_Ch_mostOf 0 = .ok (.iload_n 1, 1) := by decide +kernel
theorem d_Ch_mostOf_1 : decode b_Ch_mostOf 1 = .ok (.iconst 1, 1) := by decide +kernel
theorem d_Ch_mostOf_2 : decode b_Ch_mostOf 2 = .ok (.if_icmp .ne 10, 3) := by decide +kernel
theorem d_Ch_mostOf_5 : decode b_Ch_mostOf 5 = .ok (.aload_n 0, 1) := by decide +kernel
theorem d_Ch_mostOf_6 : decode b_Ch_mostOf 6 = .ok (.getfield 113, 3) := by decide +kernel
theorem d_Ch_mostOf_9 : decode b_Ch_mostOf 9 = .ok (.goto 7, 3) := by decide +kernel
theorem d_Ch_mostOf_12 : decode b_Ch_mostOf 12 = .ok (.aload_n 0, 1) := by decide +kernel
theorem d_Ch_mostOf_13 : decode b_Ch_mostOf 13 = .ok (.getfield 116, 3) := by decide +kernel
theorem d_Ch_mostOf_16 : decode b_Ch_mostOf 16 = .ok (.ireturn, 1) := by decide +kernel
theorem kw_674 : Cond.fieldLink R_Ch 116 "LuaMachine$Prototype" "upvalues" "I" ∈ wA := kinm (show _ ∈ tables_1 from (List.mem_append_right _ (List.mem_append_right _ (List.mem_append_left _ (List.mem_of_getElem? (l := tables_1_3) (i := 138) (by decide +kernel)))))) (by decide +kernel)
theorem kw_675 : Cond.fieldLink R_Ch 113 "LuaMachine$Prototype" "registers" "I" ∈ wA := kinm (show _ ∈ tables_1 from (List.mem_append_right _ (List.mem_append_right _ (List.mem_append_left _ (List.mem_of_getElem? (l := tables_1_3) (i := 135) (by decide +kernel)))))) (by decide +kernel)
theorem kw_676 : Cond.static y_Ch_mostOf ∈ wA := kinm (show _ ∈ tables_1 from (List.mem_append_right _ (List.mem_append_right _ (List.mem_append_left _ (List.mem_of_getElem? (l := tables_1_3) (i := 194) (by decide +kernel)))))) (by decide +kernel)
theorem cs_Ch_mostOf : CS y_Ch_mostOf b_Ch_mostOf 2 (some .int) 2 := ⟨kw_676, kw_664, k_Ch_mostOf, by decide +kernel⟩
theorem ct_Ch_mostOf {l : Launch} {P : PP} {q : PL} {s s' : S1} {l0 : Int32} {l1 : Int32} (hp0 : prs s 144 l0) {r : Int32} (h : M_Ch_mostOf l0 l1 s = some (r, s')) : Ct l y_Ch_mostOf b_Ch_mostOf 2 (some .int) 0 0 P q s [.ref (q.1 144 l0), .int l1] (some (.int r)) q s' := by
  refine ct_of (by decide) (Nat.le_of_ble_eq_true rfl) fun X ls eP el g hR hl => ?_
  subst eP
  have hR : Rt X q ((r, s') : Int32 × S1).2 (some (.int ((r, s') : Int32 × S1).1)) := hR
  have hl : lv_has ls 2 [(0, .ref (q.1 144 l0)), (1, .int l1)] := hl
  generalize (r, s') = o at h hR
  unfold M_Ch_mostOf at h
  refine ww_iload_n (pc := 0) g.1 d_Ch_mostOf_0 rfl (lv_at hl 1 rfl) ?_
  refine ww_iconst (pc := 1) g.1 (v := 1) d_Ch_mostOf_1 (by decide) ?_
  refine ww_icmp_ne (pc := 2) (tgt := 12) g.1 d_Ch_mostOf_2 (by decide) h (fun c h => ?_) (fun c h => ?_)
  · refine ww_aload_n (pc := 12) g.1 d_Ch_mostOf_12 rfl (lv_at hl 0 rfl) ?_
    refine ww_gI (pc := 13) g (k := 3) cl_Pr hp0 (by decide) (Or.inl kw_674) (f := 18435) rfl rfl d_Ch_mostOf_13 h fun v13 h => ?_
    exact ww_iretH (pc := 16) g h hR d_Ch_mostOf_16
  · refine ww_aload_n (pc := 5) g.1 d_Ch_mostOf_5 rfl (lv_at hl 0 rfl) ?_
    refine ww_gI (pc := 6) g (k := 2) cl_Pr hp0 (by decide) (Or.inl kw_675) (f := 18434) rfl rfl d_Ch_mostOf_6 h fun v6 h => ?_
    refine ww_goto (pc := 9) (tgt := 16) g.1 d_Ch_mostOf_9 (by decide) ?_
    exact ww_iretH (pc := 16) g h hR d_Ch_mostOf_16


