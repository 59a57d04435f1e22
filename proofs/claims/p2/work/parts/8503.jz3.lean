/-! Both machines: every call keeps the pair. -/
theorem jC {α : Type} {f : M α} {s : S1} {n m e : Nat × Nat} {b : Bool} (h : Jz s n m e) (k : ok f s (fun _ t => Fz t n)) (z : Zk 100 b f) : ok f s (fun _ t => Jz t n m e) := ok_mono (k.zk z) fun _ _ q => h.cls q.1 q.2
theorem jCn {α : Type} {f : M (α × (Nat × Nat))} {s : S1} {n m e : Nat × Nat} {b : Bool} (h : Jz s n m e) (k : ok f s (fun r t => Fz t r.2)) (z : Zk 100 b f) : ok f s (fun r t => Jz t r.2 m e) := ok_mono (k.zk z) fun _ _ q => h.cls q.1 q.2
theorem jCs {α : Type} {f : M α} {s : S1} {n m e : Nat × Nat} (h : Jz s n m e) (k : ok f s (Sst s)) : ok f s (fun _ t => Jz t n m e) := ok_mono k fun _ t q => by
  have : t = s := q
  rw [this]
  exact h
theorem jR {α : Type} {f : M α} {s : S1} {n m e : Nat × Nat} {Q : α → S1 → Prop} (h : Jz s n m e) (k : ok f s Q) (v : ∀ a t, Q a t → Vz t m e) (y : Yk f) (l : T3k f) : ok f s (fun _ t => Jz t n m e) := by
  obtain ⟨a, t, E, q⟩ := ok_out k
  exact ok_in E (h.ref (v a t q) (y s a t E) (l s a t E))
theorem jRn {f : M (Int32 × (Nat × Nat))} {s : S1} {n m e e' : Nat × Nat} (h : Jz s n m e) (k : ok f s (vlR e')) (y : Yk f) (l : T3k f) : ok f s (fun r t => Jz t n r.2 e') := by
  obtain ⟨a, t, E, q⟩ := ok_out k
  exact ok_in E (h.ref q (y s a t E) (l s a t E))
theorem jx_feed {s : S1} {n m e : Nat × Nat} (h : Jz s n m e) (a b c d g : Int32) : ok (X_feed a b c d g) s (fun _ t => Jz t n m e) := jC h (feed_ok h.1 a b c d g) (zx_feed a b c d g)
theorem jx_end {s : S1} {n m e : Nat × Nat} (h : Jz s n m e) (a : Int32) : ok (X_end a) s (fun _ t => Jz t n m e) := jC h (end_ok h.1 a) (zx_end a)
theorem jx_collect {s : S1} {n m e : Nat × Nat} (h : Jz s n m e)  : ok (X_collect ) s (fun _ t => Jz t n m e) := jC h (xcollect_ok h.1) zx_collect
theorem jx_fault {s : S1} {n m e : Nat × Nat} (h : Jz s n m e) (a : Int32) : ok (X_fault a) s (fun _ t => Jz t n m e) := jCs h (fault_ok h.1 a)
theorem jx_kind {s : S1} {n m e : Nat × Nat} (h : Jz s n m e) (a : Int32) : ok (X_kind a) s (fun _ t => Jz t n m e) := jCs h (kind_ok h.1 a)
theorem jx_value {s : S1} {n m e : Nat × Nat} (h : Jz s n m e) (a : Int32) : ok (X_value a) s (fun _ t => Jz t n m e) := jCs h (value_ok h.1 a)
theorem jx_byteOf {s : S1} {n m e : Nat × Nat} (h : Jz s n m e) (a b : Int32) : ok (X_byteOf a b) s (fun _ t => Jz t n m e) := jCs h (byteOf_ok h.1 a b)
theorem jx_output {s : S1} {n m e : Nat × Nat} (h : Jz s n m e) (a : Int32) : ok (X_output a) s (fun _ t => Jz t n m e) := jCs h (output_ok h.1 a)
theorem jx_count {s : S1} {n m e : Nat × Nat} (h : Jz s n m e) (a : Int32) : ok (M_LM_count a) s (fun _ t => Jz t n m e) := jCs h (count_ok h.1 a)
theorem jx_load {s : S1} {n m e : Nat × Nat} (h : Jz s n m e) : ok (X_load n) s (fun r t => Jz t r.2 m e) := jCn h (load_ok h.1) (zx_load n)
theorem jx_run {s : S1} {n m e : Nat × Nat} (h : Jz s n m e) (a : Int32) : ok (X_run n a) s (fun r t => Jz t r.2 m e) := jCn h (xrun_ok h.1 a) (zx_run n a)
theorem jr_fault {s : S1} {n m e : Nat × Nat} (h : Jz s n m e) (a : Int32) : ok (M_Mo_fault a) s (fun _ t => Jz t n m e) := jR h (rfault_ok h.2.1 a) (fun _ _ q => q) (yk_Mo_fault a) (uk_Mo_fault a).t3
theorem jr_end {s : S1} {n m e : Nat × Nat} (h : Jz s n m e) (a : Int32) : ok (M_Mo_end a) s (fun _ t => Jz t n m e) := jR h (rend_ok h.2.1 a) (fun _ _ q => q) (yk_Mo_end a) (t3k_Mo_end a)
theorem jr_run {s : S1} {n m e : Nat × Nat} (h : Jz s n m e) (a : Int32) : ok (M_Mo_run a) s (fun _ t => Jz t n m e) := jR h (rrun_ok h.2.1 a) (fun _ _ q => q) (yk_Mo_run a) (uk_Mo_run a).t3
theorem jr_collect {s : S1} {n m e : Nat × Nat} (h : Jz s n m e)  : ok (M_Mo_collect ) s (fun _ t => Jz t n m e) := jR h (rcollect_ok h.2.1) (fun _ _ q => q) (yk_Mo_collect ) uk_Mo_collect.t3
theorem jr_kind {s : S1} {n m e : Nat × Nat} (h : Jz s n m e) (a : Int32) : ok (M_Mo_kind a) s (fun _ t => Jz t n m e) := jR h (rkind_ok h.2.1 a) (fun _ _ q => q) (yk_Mo_kind a) (uk_Mo_kind a).t3
theorem jr_value {s : S1} {n m e : Nat × Nat} (h : Jz s n m e) (a : Int32) : ok (M_Mo_value a) s (fun _ t => Jz t n m e) := jR h (rvalue_ok h.2.1 a) (fun _ _ q => q) (yk_Mo_value a) (uk_Mo_value a).t3
theorem jr_byteOf {s : S1} {n m e : Nat × Nat} (h : Jz s n m e) (a b : Int32) : ok (M_Mo_byteOf_ a b) s (fun _ t => Jz t n m e) := jR h (rbyteOf_ok h.2.1 a b) (fun _ _ q => q) (yk_Mo_byteOf_ a b) (uk_Mo_byteOf_ a b).t3
theorem jr_output {s : S1} {n m e : Nat × Nat} (h : Jz s n m e) (a : Int32) : ok (M_Mo_output a) s (fun _ t => Jz t n m e) := jR h (routput_ok h.2.1 a) (fun _ _ q => q) (yk_Mo_output a) (uk_Mo_output a).t3
theorem jr_count {s : S1} {n m e : Nat × Nat} (h : Jz s n m e) (a : Int32) : ok (M_Mo_count a) s (fun _ t => Jz t n m e) := jR h (rcount_ok h.2.1 a) (fun _ _ q => q) (yk_Mo_count a) (uk_Mo_count a).t3
theorem jr_load {s : S1} {n m e : Nat × Nat} (h : Jz s n m e) : ok (M_Mo_load_ m) s (fun r t => Jz t n r.2 e) := jRn h (rload_ok h.2.1) (yk_Mo_load_ m) (t3k_Mo_load_ m)
theorem jr_feed {s : S1} {n m e : Nat × Nat} (h : Jz s n m (e.1 + 1, e.2 + 5)) (a b c d g : Int32) : ok (M_Mo_feed m a b c d g) s (fun r t => Jz t n r.2 e) := jRn h (rfeed_ok h.2.1 a b c d g) (yk_Mo_feed m a b c d g) (t3k_Mo_feed m a b c d g)
