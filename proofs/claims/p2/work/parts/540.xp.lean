/-! The face with its throwing roads: inl is a throw. -/
noncomputable def X_feed (l1 l2 l3 l4 l5 : Int32) : M (Int32 ⊕ Int32) :=
  oB (oGI 12800 0) fun v1 =>
  oC ((v1 + 20) ≤ 65536)
    (oB (M_LM_putOnTape l1) fun _ =>
    oB (M_LM_putOnTape l2) fun _ =>
    oB (M_LM_putOnTape l3) fun _ =>
    oB (M_LM_putOnTape l4) fun _ =>
    oB (M_LM_putOnTape l5) fun _ =>
    oB (oGI 12800 0) fun v48 =>
    oR (Sum.inr v48))
    (oR (Sum.inl 1))
noncomputable def X_end (l1 : Int32) : M (Int32 ⊕ Int32) :=
  oC (l1 < 0)
    (oR (Sum.inl 2))
    (oB (oGI 12800 0) fun v6 =>
    oC (l1 ≤ v6)
      (oB (oPI 12800 0 l1) fun _ =>
      oR (Sum.inr l1))
      (oR (Sum.inl 2)))
noncomputable def X_load (n0 : Nat × Nat) : M ((Int32 ⊕ Int32) × (Nat × Nat)) :=
  oB (oGI 12800 0) fun v1 =>
  oB (oPI 12800 0 0) fun _ =>
  oB (oPI 12801 0 0) fun _ =>
  oB (M_Ch_readAll n0 v1) fun v20 =>
  oC (v20.1 = 0)
    (oR (Sum.inl 3, v20.2))
    (oB (M_Ch_checkAll) fun v30 =>
    oC (v30 = 0)
      (oR (Sum.inl 3, v20.2))
      (oB (oPI 16641 0 0) fun _ =>
      oB (M_Ma_boot v20.2) fun v56 =>
      oC (v56.1 = 0)
        (oR (Sum.inl 1, v56.2))
        (oB (oPI 12801 0 1) fun _ =>
        oB (oGI 12937 0) fun v79 =>
        oR (Sum.inr v79, v56.2))))
noncomputable def X_fault (l1 : Int32) : M (Int32 ⊕ Int32) :=
  oC (l1 = 0)
    (oB (M_LM_fault_j17 l1) fun v => oR (Sum.inr v))
    (oC (l1 = 1)
      (oB (M_LM_fault_j17 l1) fun v => oR (Sum.inr v))
      (oR (Sum.inl 2)))
noncomputable def X_limit (l1 : Int32) : M (Int32 ⊕ Int32) :=
  oC (l1 < 200)
    (oR (Sum.inl 2))
    (oC (l1 ≤ 4000)
      (oB (oGI 14220 0) fun v26 =>
      oB (oPI 14220 0 l1) fun _ =>
      oR (Sum.inr v26))
      (oR (Sum.inl 2)))
noncomputable def X_run (n0 : Nat × Nat) (l1 : Int32) : M ((Int32 ⊕ Int32) × (Nat × Nat)) :=
  oC (l1 < 1)
    (oR (Sum.inl 2, n0))
    (oC (l1 ≤ 100000)
      (oB (oGI 12801 0) fun v20 =>
      oC (v20 = 0)
        (oR (Sum.inl 1, n0))
        (oB (M_LM_run n0 l1) fun v => oR (Sum.inr v.1, v.2)))
      (oR (Sum.inl 2, n0)))
noncomputable def X_collect : M (Int32 ⊕ Int32) :=
  oB (oGI 12801 0) fun v1 =>
  oC (v1 = 0)
    (oR (Sum.inl 1))
    (oB (M_He_clean) fun _ =>
    oB (oAI 114 15 0 3) fun v30 =>
    oR (Sum.inr v30))
noncomputable def X_kind (l1 : Int32) : M (Int32 ⊕ Int32) :=
  oB (M_LM_hasNoResult l1) fun v2 =>
  oC (v2 = 0)
    (oB (oAI 142 512 0 l1) fun v27 =>
    oR (Sum.inr v27))
    (oR (Sum.inl 4))
noncomputable def X_value (l1 : Int32) : M (Int32 ⊕ Int64) :=
  oB (M_LM_hasNoResult l1) fun v2 =>
  oC (v2 = 0)
    (oB (oAI 142 512 0 l1) fun v27 =>
    oB (oAL 143 512 0 l1) fun v40 =>
    oC (v27 = 4)
      (oB (oPz 145 4000 v40.toInt32) fun _ =>
      oB (oGI 18815 v40.toInt32) fun v57 =>
      oB (oK (v57 = 1)) fun _ =>
      oB (oLn 146 v40.toInt32) fun n60 =>
      oR (Sum.inr n60.toInt64))
      (oC (v27 ≤ 4)
        (oR (Sum.inr v40))
        (oB (M_He_numberOf v40) fun v73 =>
        oR (Sum.inr v73))))
    (oR (Sum.inl 4))
noncomputable def X_byteOf (l1 l2 : Int32) : M (Int32 ⊕ Int32) :=
  oB (M_LM_hasNoResult l1) fun v2 =>
  oC (v2 = 0)
    (oB (oAI 142 512 0 l1) fun v27 =>
    oC (v27 = 4)
      (oB (oAL 143 512 0 l1) fun v58 =>
      oB (oPz 145 4000 v58.toInt32) fun _ =>
      oB (oGI 18815 v58.toInt32) fun v61 =>
      oB (oK (v61 = 1)) fun _ =>
      oC (l2 < 0)
        (oR (Sum.inl 2))
        (oB (oLn 146 v58.toInt32) fun n71 =>
        oC (l2 < n71)
          (oB (oLn 146 v58.toInt32) fun n85 =>
          oB (oAI 146 n85 v58.toInt32 l2) fun v85 =>
          oR (Sum.inr (v85 &&& 255)))
          (oR (Sum.inl 2))))
      (oR (Sum.inl 2)))
    (oR (Sum.inl 4))
noncomputable def X_output (l1 : Int32) : M (Int32 ⊕ Int32) :=
  oB (oGI 12801 0) fun v1 =>
  oC (v1 = 0)
    (oR (Sum.inl 4))
    (oC (l1 < 0)
      (oR (Sum.inl 4))
      (oB (oGI 16641 0) fun v16 =>
      oC (l1 < v16)
        (oB (oAI 131 20000 0 l1) fun v38 =>
        oR (Sum.inr (v38 &&& 255)))
        (oR (Sum.inl 4))))
