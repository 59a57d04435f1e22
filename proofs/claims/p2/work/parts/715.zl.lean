/-! The class: reading and boot leave the face's own fields alone (made by zl.py). -/
theorem Zk.wy {b : Bool} {α : Type} {f : M α} (h : Zk 111 b f) : Zk 101 b f := fun s a t e => by
  obtain ⟨h1, h2, h3, h4, h5⟩ := h s a t e
  exact ⟨fun f i q => h1 f i (by omega), fun f i q => h2 f i (by omega), fun a i j q => h3 a i j (by omega), fun a i j q => h4 a i j (by omega), h5⟩
theorem zl_Ch_begin (l1 : Int32) : Zk 101 true (M_Ch_begin l1) := by
  unfold M_Ch_begin
  repeat' with_reducible (first | apply zk_B | exact zk_R _ | exact zk_PI (by omega) | intro _)
theorem zl_Ch_refuse (l1 : Int32) (l2 : Int32) : Zk 101 true (M_Ch_refuse l1 l2) := by
  unfold M_Ch_refuse
  repeat' with_reducible (first | apply zk_B | exact zk_R _ | exact zk_PI (by omega) | intro _)
theorem zl_Ch_readNumber (l1 : Int32) : Zk 101 true (M_Ch_readNumber l1) := by
  unfold M_Ch_readNumber
  repeat' with_reducible (first | apply zk_B | apply zk_C | exact (zk_Ch_readNumber_L29 _).wy | exact zl_Ch_refuse _ _ | exact zk_R _ | exact zk_GI _ _ | apply zk_W | exact zk_PI (by omega) | intro _)
theorem zl_Ch_readConstant_j124 (l1 : Int32) (l2 : Int64) : Zk 101 true (M_Ch_readConstant_j124 l1 l2) := by
  unfold M_Ch_readConstant_j124
  repeat' with_reducible (first | apply zk_B | exact zk_R _ | exact zk_GI _ _ | exact zk_SI (by omega) | exact zk_SL (by omega) | exact zk_PI (by omega) | intro _)
theorem zl_Ch_readConstant (l1 : Int32) : Zk 101 true (M_Ch_readConstant l1) := by
  unfold M_Ch_readConstant
  repeat' with_reducible (first | apply zk_B | apply zk_C | exact zl_Ch_readNumber _ | exact zl_Ch_readConstant_j124 _ _ | exact zl_Ch_refuse _ _ | exact zk_R _ | exact zk_GI _ _ | exact zk_K _ | apply zk_L | exact zk_PI (by omega) | intro _)
theorem zl_Ch_readCode_L55 (x) : Zk 101 true (M_Ch_readCode_L55 x) := by
  unfold M_Ch_readCode_L55
  repeat' with_reducible (first | apply zk_B | apply zk_C | exact zl_Ch_readNumber _ | exact zk_R _ | exact zk_GI _ _ | exact zk_SI (by omega) | exact zk_PI (by omega) | intro _)
theorem zl_Ch_readCode (l1 : Int32) : Zk 101 true (M_Ch_readCode l1) := by
  unfold M_Ch_readCode
  repeat' with_reducible (first | apply zk_B | apply zk_C | exact zl_Ch_readNumber _ | exact zl_Ch_refuse _ _ | exact zl_Ch_readCode_L55 _ | exact zk_R _ | exact zk_GI _ _ | exact zk_K _ | apply zk_W | exact zk_PI (by omega) | apply zk_E | intro _)
theorem zl_Ch_listChildren_L52 (x) : Zk 101 true (M_Ch_listChildren_L52 x) := by
  unfold M_Ch_listChildren_L52
  repeat' with_reducible (first | apply zk_B | apply zk_C | exact zk_R _ | exact zk_GI _ _ | exact zk_SI (by omega) | exact zk_Pz _ _ _ | exact zk_PI (by omega) | intro _)
theorem zl_Ch_listChildren  : Zk 101 true (M_Ch_listChildren) := by
  unfold M_Ch_listChildren
  repeat' with_reducible (first | apply zk_B | exact (zk_Ch_listChildren_L4 _).wy | exact zl_Ch_listChildren_L52 _ | exact zk_R _ | apply zk_W | intro _)
theorem zl_Ch_readHead_j68  : Zk 101 true (M_Ch_readHead_j68) := by
  unfold M_Ch_readHead_j68
  repeat' with_reducible (first | apply zk_B | exact zl_Ch_refuse _ _ | exact zk_R _ | exact zk_GI _ _ | exact zk_K _ | intro _)
theorem zl_Ch_readHead_j127  : Zk 101 true (M_Ch_readHead_j127) := by
  unfold M_Ch_readHead_j127
  repeat' with_reducible (first | apply zk_B | exact zl_Ch_refuse _ _ | exact zk_R _ | exact zk_GI _ _ | exact zk_K _ | intro _)
theorem zl_Ch_readHead_j178  : Zk 101 true (M_Ch_readHead_j178) := by
  unfold M_Ch_readHead_j178
  repeat' with_reducible (first | apply zk_B | exact zl_Ch_refuse _ _ | exact zk_R _ | exact zk_GI _ _ | exact zk_K _ | intro _)
theorem zl_Ch_readHead_j80 (l1 : Int32) (l2 : Int32) : Zk 101 true (M_Ch_readHead_j80 l1 l2) := by
  unfold M_Ch_readHead_j80
  repeat' with_reducible (first | apply zk_B | apply zk_C | exact zl_Ch_readNumber _ | exact zl_Ch_readHead_j127 | exact zl_Ch_readHead_j178 | exact zk_R _ | exact zk_GI _ _ | exact zk_PI (by omega) | intro _)
theorem zl_Ch_readHead_j12 (l1 : Int32) (k0 : Int32) : Zk 101 true (M_Ch_readHead_j12 l1 k0) := by
  unfold M_Ch_readHead_j12
  repeat' with_reducible (first | apply zk_B | apply zk_C | exact zl_Ch_readNumber _ | exact zl_Ch_readHead_j68 | exact zl_Ch_readHead_j80 _ _ | exact zk_R _ | exact zk_GI _ _ | exact zk_PI (by omega) | intro _)
theorem zl_Ch_readHead (l1 : Int32) : Zk 101 true (M_Ch_readHead l1) := by
  unfold M_Ch_readHead
  repeat' with_reducible (first | apply zk_B | apply zk_C | exact zl_Ch_readHead_j12 _ _ | exact zk_GI _ _ | intro _)
theorem zl_Ch_readUpvalues_j127 (l1 : Int32) (l2 : Int32) (k0 : Int32) (k1 : Int32) : Zk 101 true (M_Ch_readUpvalues_j127 l1 l2 k0 k1) := by
  unfold M_Ch_readUpvalues_j127
  repeat' with_reducible (first | apply zk_B | exact zk_R _ | exact zk_GI _ _ | exact zk_SI (by omega) | exact zk_PI (by omega) | intro _)
theorem zl_Ch_readUpvalues_j105 (l1 : Int32) (l2 : Int32) (l3 : Int32) (l4 : Int32) : Zk 101 true (M_Ch_readUpvalues_j105 l1 l2 l3 l4) := by
  unfold M_Ch_readUpvalues_j105
  repeat' with_reducible (first | apply zk_B | apply zk_C | exact zl_Ch_readUpvalues_j127 _ _ _ _ | exact zk_GI _ _ | intro _)
theorem zl_Ch_readUpvalues_j54 (l1 : Int32) (l2 : Int32) (l3 : Int32) : Zk 101 true (M_Ch_readUpvalues_j54 l1 l2 l3) := by
  unfold M_Ch_readUpvalues_j54
  repeat' with_reducible (first | apply zk_B | apply zk_C | exact zl_Ch_readNumber _ | exact zl_Ch_readUpvalues_j105 _ _ _ _ | exact (zk_Ch_mostOf _ _).wy | exact zk_R _ | exact zk_GI _ _ | exact zk_Pz _ _ _ | intro _)
theorem zl_Ch_readUpvalues_L10 (x) : Zk 101 true (M_Ch_readUpvalues_L10 x) := by
  unfold M_Ch_readUpvalues_L10
  repeat' with_reducible (first | apply zk_B | apply zk_C | exact zl_Ch_readNumber _ | exact zl_Ch_readUpvalues_j54 _ _ _ | exact zk_R _ | exact zk_GI _ _ | intro _)
theorem zl_Ch_readUpvalues (l1 : Int32) : Zk 101 true (M_Ch_readUpvalues l1) := by
  unfold M_Ch_readUpvalues
  repeat' with_reducible (first | apply zk_B | exact zl_Ch_readUpvalues_L10 _ | exact zl_Ch_refuse _ _ | exact zk_R _ | exact zk_GI _ _ | exact zk_K _ | apply zk_W | exact zk_PI (by omega) | apply zk_E | intro _)
theorem zl_Ch_readConstants_L28 (x) : Zk 101 true (M_Ch_readConstants_L28 x) := by
  unfold M_Ch_readConstants_L28
  repeat' with_reducible (first | apply zk_B | apply zk_C | exact zl_Ch_readNumber _ | exact zl_Ch_readConstant _ | exact zk_R _ | exact zk_GI _ _ | intro _)
theorem zl_Ch_readConstants (l1 : Int32) : Zk 101 true (M_Ch_readConstants l1) := by
  unfold M_Ch_readConstants
  repeat' with_reducible (first | apply zk_B | apply zk_C | exact zl_Ch_readNumber _ | exact zl_Ch_readConstants_L28 _ | exact zl_Ch_refuse _ _ | exact zk_R _ | exact zk_GI _ _ | exact zk_K _ | apply zk_W | exact zk_PI (by omega) | apply zk_E | intro _)
theorem zl_Ch_readPrototype_j22 (l1 : Int32) (l2 : Int32) (ln : Nat × Nat) : Zk 101 true (M_Ch_readPrototype_j22 l1 l2 ln) := by
  unfold M_Ch_readPrototype_j22
  repeat' with_reducible (first | apply zk_B | apply zk_C | exact zl_Ch_readHead _ | exact zl_Ch_readUpvalues _ | exact zl_Ch_readConstants _ | exact zl_Ch_readCode _ | exact zl_Ch_readNumber _ | exact zk_R _ | exact zk_GI _ _ | exact zk_Pz _ _ _ | exact zk_PI (by omega) | intro _)
theorem zl_Ch_readPrototype (n0 : Nat × Nat) (l1 : Int32) (l2 : Int32) : Zk 101 true (M_Ch_readPrototype n0 l1 l2) := by
  unfold M_Ch_readPrototype
  repeat' with_reducible (first | apply zk_B | apply zk_C | exact zl_Ch_readPrototype_j22 _ _ _ | exact zk_K _ | exact zk_Ks _ | exact zk_Nz _ _ _ | exact zk_Nw _ _ | exact zk_S (zr_nwO (by omega)) | intro _)
theorem zl_Ch_readAll_j124 (l2 : Int32) (l3 : Int32) (ln : Nat × Nat) : Zk 101 true (M_Ch_readAll_j124 l2 l3 ln) := by
  unfold M_Ch_readAll_j124
  repeat' with_reducible (first | apply zk_B | exact zk_R _ | exact zk_GI _ _ | exact zk_SI (by omega) | exact zk_Pz _ _ _ | intro _)
theorem zl_Ch_readAll_j100 (l2 : Int32) (l3 : Int32) (ln : Nat × Nat) (k0 : Int32) (k1 : Int32) : Zk 101 true (M_Ch_readAll_j100 l2 l3 ln k0 k1) := by
  unfold M_Ch_readAll_j100
  repeat' with_reducible (first | apply zk_B | apply zk_C | exact zl_Ch_readPrototype _ _ _ | exact zl_Ch_readAll_j124 _ _ _ | exact zk_R _ | exact zk_AI _ _ _ _ | exact zk_SI (by omega) | intro _)
theorem zl_Ch_readAll_j59 (l2 : Int32) (l3 : Int32) (ln : Nat × Nat) : Zk 101 true (M_Ch_readAll_j59 l2 l3 ln) := by
  unfold M_Ch_readAll_j59
  repeat' with_reducible (first | apply zk_B | apply zk_C | exact zl_Ch_readAll_j100 _ _ _ _ _ | exact zk_R _ | exact zk_AI _ _ _ _ | intro _)
theorem zl_Ch_readAll_L9 (x) : Zk 101 true (M_Ch_readAll_L9 x) := by
  unfold M_Ch_readAll_L9
  repeat' with_reducible (first | apply zk_B | apply zk_C | exact (zk_Ch_withoutFullOnes _).wy | exact zl_Ch_readAll_j59 _ _ _ | exact zk_R _ | intro _)
theorem zl_Ch_readAll_j72 (ln : Nat × Nat) : Zk 101 true (M_Ch_readAll_j72 ln) := by
  unfold M_Ch_readAll_j72
  repeat' with_reducible (first | apply zk_B | exact zl_Ch_refuse _ _ | exact zk_R _ | exact zk_GI _ _ | exact zk_K _ | intro _)
theorem zl_Ch_readAll (n0 : Nat × Nat) (l1 : Int32) : Zk 101 true (M_Ch_readAll n0 l1) := by
  unfold M_Ch_readAll
  repeat' with_reducible (first | apply zk_B | apply zk_C | exact zl_Ch_begin _ | exact zl_Ch_readAll_L9 _ | exact (zk_Ch_readAll_j53 _).wy | exact zl_Ch_refuse _ _ | exact zl_Ch_readAll_j72 _ | exact zk_R _ | exact zk_GI _ _ | apply zk_W | apply zk_E | intro _)
theorem zl_Ch_checkAll  : Zk 101 true (M_Ch_checkAll) := by
  unfold M_Ch_checkAll
  repeat' with_reducible (first | apply zk_B | exact zl_Ch_listChildren | exact (zk_Ch_checkAll_L6 _).wy | exact zl_Ch_refuse _ _ | exact zk_R _ | exact zk_GI _ _ | exact zk_K _ | apply zk_W | apply zk_E | intro _)
theorem zl_Ma_internConstants_L2 (x) : Zk 101 true (M_Ma_internConstants_L2 x) := by
  unfold M_Ma_internConstants_L2
  repeat' with_reducible (first | apply zk_B | apply zk_C | exact (zk_He_intern _ _ _ _ _).wy | exact (zk_Ma_internConstants_j96 _ _).wy | exact zk_R _ | exact zk_GI _ _ | exact zk_AI _ _ _ _ | exact zk_AL _ _ _ _ | exact zk_SL (by omega) | exact zk_Pz _ _ _ | exact zk_PI (by omega) | intro _)
theorem zl_Ma_internConstants (n0 : Nat × Nat) : Zk 101 true (M_Ma_internConstants n0) := by
  unfold M_Ma_internConstants
  repeat' with_reducible (first | apply zk_B | exact zl_Ma_internConstants_L2 _ | exact zk_R _ | apply zk_W | apply zk_E | intro _)
theorem zl_Ma_boot (n0 : Nat × Nat) : Zk 101 true (M_Ma_boot n0) := by
  unfold M_Ma_boot
  repeat' with_reducible (first | apply zk_B | apply zk_C | exact (zk_He_restart).wy | exact (zk_Ta_restart).wy | exact (zk_Ro_clear _ _ (by omega)).wy | exact (zk_Ta_make _).wy | exact (zk_Ma_internNames _ _ _).wy | exact (zk_He_makeClosedVariable _ _ _).wy | exact (zk_Ma_boot_j161 _).wy | exact zl_Ma_internConstants _ | exact (zk_Ma_fillGlobals).wy | exact (zk_Ma_beginMain _ _).wy | exact zk_R _ | exact zk_GI _ _ | exact zk_PI (by omega) | intro _)
