/-! Both machines side by side. -/
theorem Zr.vz {b : Bool} {s t : S1} {n e : Nat × Nat} (h : Zr 100 b s t) (v : Vz s n e) : Vz t n e := by
  have rb : Rb s t := ⟨fun f i q => h.1 f i (by omega), fun f i q => h.2.1 f i (by omega), fun a i j q => h.2.2.1 a i j (by omega), fun a i j q => h.2.2.2.1 a i j (by omega)⟩
  refine rb.vz v ?_ (fun z => ?_)
  · unfold f_size
    rw [h.1 1 0 (by omega)]
    exact v.1
  · unfold f_chunk at z ⊢
    rw [h.1 5 0 (by omega)] at z
    exact z
theorem zx_feed (a b c d e : Int32) : Zk 100 true (X_feed a b c d e) := by
  unfold X_feed
  repeat' with_reducible (first | apply zk_B | apply zk_C | exact zk_LM_putOnTape _ | exact zk_Ch_readAll _ _ | exact zk_Ch_checkAll | exact (zk_Ma_boot _).wb _ | exact (zk_LM_fault_j17 _).wz | exact (zk_LM_hasNoResult _).wz | exact (zk_He_clean).wz | exact (zk_He_numberOf _).wz | exact (zk_LM_run _ _).wz | exact zk_R _ | exact zk_GI _ _ | exact zk_AI _ _ _ _ | exact zk_AL _ _ _ _ | exact zk_K _ | exact zk_Pz _ _ _ | exact zk_Ln _ _ | exact zk_PIw (by omega) | exact zk_PI (by omega) | intro _)
theorem zx_end (a : Int32) : Zk 100 true (X_end a) := by
  unfold X_end
  repeat' with_reducible (first | apply zk_B | apply zk_C | exact zk_LM_putOnTape _ | exact zk_Ch_readAll _ _ | exact zk_Ch_checkAll | exact (zk_Ma_boot _).wb _ | exact (zk_LM_fault_j17 _).wz | exact (zk_LM_hasNoResult _).wz | exact (zk_He_clean).wz | exact (zk_He_numberOf _).wz | exact (zk_LM_run _ _).wz | exact zk_R _ | exact zk_GI _ _ | exact zk_AI _ _ _ _ | exact zk_AL _ _ _ _ | exact zk_K _ | exact zk_Pz _ _ _ | exact zk_Ln _ _ | exact zk_PIw (by omega) | exact zk_PI (by omega) | intro _)
theorem zx_load (n : Nat × Nat) : Zk 100 false (X_load n) := by
  unfold X_load
  repeat' with_reducible (first | apply zk_B | apply zk_C | exact zk_LM_putOnTape _ | exact (zk_Ch_readAll _ _).wb _ | exact (zk_Ch_checkAll).wb _ | exact (zk_Ma_boot _).wb _ | exact (zk_LM_fault_j17 _).wz | exact (zk_LM_hasNoResult _).wz | exact (zk_He_clean).wz | exact (zk_He_numberOf _).wz | exact (zk_LM_run _ _).wz | exact zk_R _ | exact zk_GI _ _ | exact zk_AI _ _ _ _ | exact zk_AL _ _ _ _ | exact zk_K _ | exact zk_Pz _ _ _ | exact zk_Ln _ _ | exact zk_PIw (by omega) | exact zk_PI (by omega) | intro _)
theorem zx_fault (a : Int32) : Zk 100 true (X_fault a) := by
  unfold X_fault
  repeat' with_reducible (first | apply zk_B | apply zk_C | exact zk_LM_putOnTape _ | exact zk_Ch_readAll _ _ | exact zk_Ch_checkAll | exact (zk_Ma_boot _).wb _ | exact (zk_LM_fault_j17 _).wz | exact (zk_LM_hasNoResult _).wz | exact (zk_He_clean).wz | exact (zk_He_numberOf _).wz | exact (zk_LM_run _ _).wz | exact zk_R _ | exact zk_GI _ _ | exact zk_AI _ _ _ _ | exact zk_AL _ _ _ _ | exact zk_K _ | exact zk_Pz _ _ _ | exact zk_Ln _ _ | exact zk_PIw (by omega) | exact zk_PI (by omega) | intro _)
theorem zx_run (n : Nat × Nat) (a : Int32) : Zk 100 false (X_run n a) := by
  unfold X_run
  repeat' with_reducible (first | apply zk_B | apply zk_C | exact zk_LM_putOnTape _ | exact (zk_Ch_readAll _ _).wb _ | exact (zk_Ch_checkAll).wb _ | exact (zk_Ma_boot _).wb _ | exact (zk_LM_fault_j17 _).wz | exact (zk_LM_hasNoResult _).wz | exact (zk_He_clean).wz | exact (zk_He_numberOf _).wz | exact (zk_LM_run _ _).wz | exact zk_R _ | exact zk_GI _ _ | exact zk_AI _ _ _ _ | exact zk_AL _ _ _ _ | exact zk_K _ | exact zk_Pz _ _ _ | exact zk_Ln _ _ | exact zk_PIw (by omega) | exact zk_PI (by omega) | intro _)
theorem zx_collect  : Zk 100 true (X_collect ) := by
  unfold X_collect
  repeat' with_reducible (first | apply zk_B | apply zk_C | exact zk_LM_putOnTape _ | exact zk_Ch_readAll _ _ | exact zk_Ch_checkAll | exact (zk_Ma_boot _).wb _ | exact (zk_LM_fault_j17 _).wz | exact (zk_LM_hasNoResult _).wz | exact (zk_He_clean).wz | exact (zk_He_numberOf _).wz | exact (zk_LM_run _ _).wz | exact zk_R _ | exact zk_GI _ _ | exact zk_AI _ _ _ _ | exact zk_AL _ _ _ _ | exact zk_K _ | exact zk_Pz _ _ _ | exact zk_Ln _ _ | exact zk_PIw (by omega) | exact zk_PI (by omega) | intro _)
theorem zx_kind (a : Int32) : Zk 100 true (X_kind a) := by
  unfold X_kind
  repeat' with_reducible (first | apply zk_B | apply zk_C | exact zk_LM_putOnTape _ | exact zk_Ch_readAll _ _ | exact zk_Ch_checkAll | exact (zk_Ma_boot _).wb _ | exact (zk_LM_fault_j17 _).wz | exact (zk_LM_hasNoResult _).wz | exact (zk_He_clean).wz | exact (zk_He_numberOf _).wz | exact (zk_LM_run _ _).wz | exact zk_R _ | exact zk_GI _ _ | exact zk_AI _ _ _ _ | exact zk_AL _ _ _ _ | exact zk_K _ | exact zk_Pz _ _ _ | exact zk_Ln _ _ | exact zk_PIw (by omega) | exact zk_PI (by omega) | intro _)
theorem zx_value (a : Int32) : Zk 100 true (X_value a) := by
  unfold X_value
  repeat' with_reducible (first | apply zk_B | apply zk_C | exact zk_LM_putOnTape _ | exact zk_Ch_readAll _ _ | exact zk_Ch_checkAll | exact (zk_Ma_boot _).wb _ | exact (zk_LM_fault_j17 _).wz | exact (zk_LM_hasNoResult _).wz | exact (zk_He_clean).wz | exact (zk_He_numberOf _).wz | exact (zk_LM_run _ _).wz | exact zk_R _ | exact zk_GI _ _ | exact zk_AI _ _ _ _ | exact zk_AL _ _ _ _ | exact zk_K _ | exact zk_Pz _ _ _ | exact zk_Ln _ _ | exact zk_PIw (by omega) | exact zk_PI (by omega) | intro _)
theorem zx_byteOf (a b : Int32) : Zk 100 true (X_byteOf a b) := by
  unfold X_byteOf
  repeat' with_reducible (first | apply zk_B | apply zk_C | exact zk_LM_putOnTape _ | exact zk_Ch_readAll _ _ | exact zk_Ch_checkAll | exact (zk_Ma_boot _).wb _ | exact (zk_LM_fault_j17 _).wz | exact (zk_LM_hasNoResult _).wz | exact (zk_He_clean).wz | exact (zk_He_numberOf _).wz | exact (zk_LM_run _ _).wz | exact zk_R _ | exact zk_GI _ _ | exact zk_AI _ _ _ _ | exact zk_AL _ _ _ _ | exact zk_K _ | exact zk_Pz _ _ _ | exact zk_Ln _ _ | exact zk_PIw (by omega) | exact zk_PI (by omega) | intro _)
theorem zx_output (a : Int32) : Zk 100 true (X_output a) := by
  unfold X_output
  repeat' with_reducible (first | apply zk_B | apply zk_C | exact zk_LM_putOnTape _ | exact zk_Ch_readAll _ _ | exact zk_Ch_checkAll | exact (zk_Ma_boot _).wb _ | exact (zk_LM_fault_j17 _).wz | exact (zk_LM_hasNoResult _).wz | exact (zk_He_clean).wz | exact (zk_He_numberOf _).wz | exact (zk_LM_run _ _).wz | exact zk_R _ | exact zk_GI _ _ | exact zk_AI _ _ _ _ | exact zk_AL _ _ _ _ | exact zk_K _ | exact zk_Pz _ _ _ | exact zk_Ln _ _ | exact zk_PIw (by omega) | exact zk_PI (by omega) | intro _)
/-- the class and the reference between two calls -/
def Jz (s : S1) (n m e : Nat × Nat) : Prop := Fz s n ∧ Vz s m e ∧ gI s 14220 0 = gI s 32 0
/-- a call of the class -/
theorem Jz.cls {s t : S1} {n n' m e : Nat × Nat} {b : Bool} (h : Jz s n m e) (f : Fz t n') (z : Zr 100 b s t) : Jz t n' m e := ⟨f, z.vz h.2.1, by rw [z.1 14220 0 (by omega), z.1 32 0 (by omega)]; exact h.2.2⟩
/-- a call of the reference -/
theorem Jz.ref {s t : S1} {n m m' e e' : Nat × Nat} (h : Jz s n m e) (v : Vz t m' e') (y : Yr s t) (l : gI t 32 0 = gI s 32 0) : Jz t n m' e' := ⟨y.fz h.1, v, by rw [y.1 14220 0 (by omega), l]; exact h.2.2⟩
theorem ok.yk {α : Type} {f : M α} {s : S1} {Q : α → S1 → Prop} (h : ok f s Q) (k : Yk f) : ok f s (fun a t => Q a t ∧ Yr s t) := by
  obtain ⟨a, t, e, q⟩ := ok_out h
  exact ok_in e ⟨q, k s a t e⟩
