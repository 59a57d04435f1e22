/-! The law's loop. -/
theorem lx_cmp {L j : Nat} (hL : L ≤ 3072) (hj : j ≤ 3072) : (Int32.ofNat L - 6 < Int32.ofNat j) ↔ (L : Int) - 6 < j := by
  have e1 : (Int32.ofNat L).toInt = (L : Int) := nI_toInt (n := L) (by omega)
  have e2 : (Int32.ofNat j).toInt = (j : Int) := nI_toInt (n := j) (by omega)
  have e3 : (6 : Int32).toInt = 6 := rfl
  rw [Int32.lt_iff_toInt_lt, ktI_sub (by rw [e1, e3]; omega), e1, e2, e3]
section LL
variable {X : Cx} {b L : Nat} {f : Nat → Int32} {q : PL} {s : S1} {pc : Nat} {ls : Array Slot} {rest : List Value}
theorem wl_slen (A : LA X b L f) (hdg : decode code pc = .ok (.arraylength, 1)) (kk : WW X q s (pc + 1) ls (.int (Int32.ofNat L) :: rest)) : WW X q s pc ls (.ref b :: rest) := by
  obtain ⟨g, -, hX, hbl, hP, hL, -⟩ := A
  intro H locs hW hS
  exact va_slen g.1.1 g.1.2 hX hbl (by rw [hP]; exact Nat.not_le.mpr hbl) hS hdg (kk H locs hW hS)
theorem wl_sld0 (A : LA X b L f) {j : Nat} (hj : j < L) (hdg : decode code pc = .ok (.iaload, 1)) (kk : WW X q s (pc + 1) ls (.int (f j) :: rest)) : WW X q s pc ls (.int (Int32.ofNat j) :: .ref b :: rest) := by
  obtain ⟨g, -, hX, hbl, hP, hL, -⟩ := A
  intro H locs hW hS
  have z := kk H locs hW hS
  refine va_sld g.1.1 g.1.2 hX hbl (by rw [hP]; exact Nat.not_le.mpr hbl) hS (i := Int32.ofNat j) ?_ hdg ?_
  · rintro (w | w)
    · exact absurd (of_nn (n := j) (by omega)) (Int32.not_le.mpr w)
    · rw [of_cl (by omega)] at w
      omega
  · rw [of_cl (by omega)]
    exact z
theorem loop_LI (A : LA X b L f) : ∀ k, k ≤ 512 → LI X b k := by
  have hLx := A.2.2.2.2.2.1
  intro k
  induction k with
  | zero =>
    intro _ q s n m ls hJ hr hl
    have g := A.1
    refine ww_iload (pc := 23) g.1 d_law_law_23 (lv_at hl 0 rfl) ?_
    refine ww_aload_n (pc := 25) g.1 d_law_law_25 rfl (lv_at hl 4 rfl) ?_
    refine wl_slen (pc := 26) A d_law_law_26 ?_
    refine ww_bipush (pc := 27) g.1 (v := 6) d_law_law_27 (by decide) ?_
    refine ww_isub (pc := 29) g.1 d_law_law_29 ?_
    refine wq_icmp_gt (pc := 30) (tgt := 507) g.1 d_law_law_30 (by decide) (fun _ => ?_) (fun c => absurd ((lx_cmp hLx (by omega)).mpr (by omega)) c)
    refine ww_iconst (pc := 507) g.1 (v := 1) d_law_law_507 (by decide) ?_
    exact A.2.2.2.2.2.2 q s ls
  | succ k ih =>
    intro hk q s n m ls hJ hr hl
    have hI := ih (by omega)
    have g := A.1
    have hJ : Jt s n m (k + 1, 5 * k + 5) := hJ
    refine ww_iload (pc := 23) g.1 d_law_law_23 (lv_at hl 0 rfl) ?_
    refine ww_aload_n (pc := 25) g.1 d_law_law_25 rfl (lv_at hl 4 rfl) ?_
    refine wl_slen (pc := 26) A d_law_law_26 ?_
    refine ww_bipush (pc := 27) g.1 (v := 6) d_law_law_27 (by decide) ?_
    refine ww_isub (pc := 29) g.1 d_law_law_29 ?_
    refine wq_icmp_gt (pc := 30) (tgt := 507) g.1 d_law_law_30 (by decide) (fun _ => ?_) (fun c => ?_)
    · refine ww_iconst (pc := 507) g.1 (v := 1) d_law_law_507 (by decide) ?_
      exact A.2.2.2.2.2.2 q s ls
    have hj : 3072 - 6 * (k + 1) + 6 ≤ L := by
      have z : ¬ ((L : Int) - 6 < ((3072 - 6 * (k + 1) : Nat) : Int)) := fun w => c ((lx_cmp hLx (j := 3072 - 6 * (k + 1)) (by omega)).mpr w)
      omega
    refine ww_aload_n (pc := 33) g.1 d_law_law_33 rfl (lv_at hl 4 rfl) ?_
    refine ww_iload (pc := 34) g.1 d_law_law_34 (lv_at hl 0 rfl) ?_
    refine wl_sld0 (pc := 36) A (by omega) d_law_law_36 ?_
    refine ww_bipush (pc := 37) g.1 (v := 15) d_law_law_37 (by decide) ?_
    refine ww_iand (pc := 39) g.1 d_law_law_39 ?_
    obtain ⟨v, hv, ev⟩ := pk_andE (f (3072 - 6 * (k + 1))) (m := 15) 4 (by decide)
    refine ww_xi ev ?_
    have hk16 : v = 0 ∨ v = 1 ∨ v = 2 ∨ v = 3 ∨ v = 4 ∨ v = 5 ∨ v = 6 ∨ v = 7 ∨ v = 8 ∨ v = 9 ∨ v = 10 ∨ v = 11 ∨ v = 12 ∨ v = 13 ∨ v = 14 ∨ v = 15 := by omega
    rcases hk16 with rfl | rfl | rfl | rfl | rfl | rfl | rfl | rfl | rfl | rfl | rfl | rfl | rfl | rfl | rfl | rfl
    · refine ww_tableIn (pc := 40) (off := 64) (tgt := 104) g.1 d_law_law_40 (by decide) (by decide) (by decide) (by decide) ?_
      exact lk_feed A (by omega) hI hj hJ hr hl
    · refine ww_tableIn (pc := 40) (off := 168) (tgt := 208) g.1 d_law_law_40 (by decide) (by decide) (by decide) (by decide) ?_
      exact lk_end A (by omega) hI hj hJ hr hl
    · refine ww_tableIn (pc := 40) (off := 196) (tgt := 236) g.1 d_law_law_40 (by decide) (by decide) (by decide) (by decide) ?_
      exact lk_load A (by omega) hI hj hJ hr hl
    · refine ww_tableIn (pc := 40) (off := 212) (tgt := 252) g.1 d_law_law_40 (by decide) (by decide) (by decide) (by decide) ?_
      exact lk_fault A (by omega) hI hj hJ hr hl
    · refine ww_tableIn (pc := 40) (off := 240) (tgt := 280) g.1 d_law_law_40 (by decide) (by decide) (by decide) (by decide) ?_
      exact lk_limit A (by omega) hI hj hJ hr hl
    · refine ww_tableIn (pc := 40) (off := 268) (tgt := 308) g.1 d_law_law_40 (by decide) (by decide) (by decide) (by decide) ?_
      exact lk_run A (by omega) hI hj hJ hr hl
    · refine ww_tableIn (pc := 40) (off := 296) (tgt := 336) g.1 d_law_law_40 (by decide) (by decide) (by decide) (by decide) ?_
      exact lk_collect A (by omega) hI hj hJ hr hl
    · refine ww_tableIn (pc := 40) (off := 312) (tgt := 352) g.1 d_law_law_40 (by decide) (by decide) (by decide) (by decide) ?_
      exact lk_kind A (by omega) hI hj hJ hr hl
    · refine ww_tableIn (pc := 40) (off := 340) (tgt := 380) g.1 d_law_law_40 (by decide) (by decide) (by decide) (by decide) ?_
      exact lk_value A (by omega) hI hj hJ hr hl
    · refine ww_tableIn (pc := 40) (off := 368) (tgt := 408) g.1 d_law_law_40 (by decide) (by decide) (by decide) (by decide) ?_
      exact lk_byteOf A (by omega) hI hj hJ hr hl
    · refine ww_tableIn (pc := 40) (off := 408) (tgt := 448) g.1 d_law_law_40 (by decide) (by decide) (by decide) (by decide) ?_
      exact lk_output A (by omega) hI hj hJ hr hl
    · refine ww_tableIn (pc := 40) (off := 436) (tgt := 476) g.1 d_law_law_40 (by decide) (by decide) (by decide) (by decide) ?_
      exact lk_count A (by omega) hI hj hJ hr hl
    · refine ww_tableOut (pc := 40) (tgt := 501) g.1 d_law_law_40 (by decide) (by decide) ?_
      exact wl_tail A (by omega) hI (jt_e hJ) ⟨by have := hr.1; omega, by have := hr.2; omega⟩ hl
    · refine ww_tableOut (pc := 40) (tgt := 501) g.1 d_law_law_40 (by decide) (by decide) ?_
      exact wl_tail A (by omega) hI (jt_e hJ) ⟨by have := hr.1; omega, by have := hr.2; omega⟩ hl
    · refine ww_tableOut (pc := 40) (tgt := 501) g.1 d_law_law_40 (by decide) (by decide) ?_
      exact wl_tail A (by omega) hI (jt_e hJ) ⟨by have := hr.1; omega, by have := hr.2; omega⟩ hl
    · refine ww_tableOut (pc := 40) (tgt := 501) g.1 d_law_law_40 (by decide) (by decide) ?_
      exact wl_tail A (by omega) hI (jt_e hJ) ⟨by have := hr.1; omega, by have := hr.2; omega⟩ hl
end LL
