/-! The rows that read and write: fields, elements; the ways out. -/
def ClF (r : Nat) (C : String) (T : u_T) (ty : Nat → FieldType) : Prop := rkF r = 0 ∧ vwCl[ciF r]? = some (C, T, nfF r) ∧ (∀ w ∈ u_ws C T (nfF r), w ∈ wA) ∧ (∀ k, k < nfF r → parseFieldDescriptor (T k).2.2.1 = some (ty k)) ∧ (∀ a, a < nfF r → ∀ b, b < nfF r → a ≠ b → (T a).2.1 ≠ (T b).2.1) ∧ ∀ k, (T k).1 = C
/-- a field's link: a plain one, or one in the nest -/
def Fl (own : String) (index : Nat) (C n d : String) : Prop := Cond.fieldLink own index C n d ∈ wA ∨ ∃ host : String, Cond.fieldLinkNest own index C n d host ∈ xW
section AC
variable {X : Cx} {q : PL} {s : S1} {y : MethodName} {cc : ByteArray} {nL : Nat} {ret : Option FieldType} {fr lo : Nat} {own : String} {pc : Nat} {ls : Array Slot} {rest : List Value} {r : Nat} {i : Int32} {C : String} {T : u_T} {ty : Nat → FieldType} {k index : Nat} {α : Type} {o : α × S1}
theorem ww_get (g : Gd X y cc nL ret fr lo own) (hc : ClF r C T ty) (hp : prs s r i) (hk : k < nfF r) (hl : Fl own index C (T k).2.1 (T k).2.2.1) (hdg : decode cc pc = .ok (.getfield index, 3))
    (kk : WW X q s (pc + 3) ls (fv q s r i k :: rest)) : WW X q s pc ls (.ref (q.1 r i) :: rest) := by
  intro H locs hW hS
  obtain ⟨⟨hx, hb⟩, -, hown, hts, hK, -⟩ := g
  have hcell := (hW.2.2.1 r i hp).1
  unfold cellAt at hcell
  rw [if_pos hc.1] at hcell
  obtain ⟨cell, q1, q2, q3, q4⟩ := hcell
  obtain ⟨hSl, hfc, kC, hkC, hkind⟩ := hK.1.1 (ciF r) _ hc.2.1
  obtain ⟨cf, kf, fi, f, hi, hsl⟩ := hSl k hk
  have hst := (u_facts hfc hkC (u_lays hts (fun w h => List.mem_cons_of_mem _ (hc.2.2.1 w h)) hk) hi).1
  have hi2 : (xs X).fieldFound? C (T k).2.1 (T k).2.2.1 = some (cf, kf, fi, f) := by rw [← hc.2.2.2.2.2 k]; exact hi
  have hv : cell.slots[f.slot]? = some (fv q s r i k) := by rw [hsl]; exact q4 k hk
  rcases hl with hl | ⟨host, hl⟩
  · exact W.getf hx hb hown (hts _ (List.mem_cons_of_mem _ hl)) hi2 hst q1 (by rw [q3]; exact fun h => by cases h) hv rfl rfl hdg (kk H locs hW hS)
  · exact va_Wgetf hx hb hown (va_Nw.use rfl (hK.2.2.1 _ hl)) hi2 hst q1 (by rw [q3]; exact fun h => by cases h) hv rfl rfl hdg (kk H locs hW hS)
theorem setSlot_size (c : Cell) (j : Nat) (v : Value) : (c.setSlot j v).slots.size = c.slots.size := by simp [Cell.setSlot]
theorem ww_put (g : Gd X y cc nL ret fr lo own) (hc : ClF r C T ty) (hp : prs s r i) (hk : k < nfF r) (hl : Fl own index C (T k).2.1 (T k).2.2.1) (hfin : (T k).2.2.2 = false) {s' : S1} {v : Value} (hn : narrow (ty k) v = v) (hfit : fits (ty k) v = true)
    (hx' : ∀ H H1 : Heap, Wd (xP X) q s H → t_OB (q.1 r i) ((xP X).2.1.1 (ciF r)) (nfF r) ((xP X).2.1.2 (ciF r)) H1 (updV (fv q s r i) k v) → H1.size = H.size → tot H1 = tot H → (∀ a : Nat, a ≠ q.1 r i → H1[a]? = H[a]?) → Wd (xP X) q s' H1)
    (hdg : decode cc pc = .ok (.putfield index, 3)) (kk : WW X q s' (pc + 3) ls rest) : WW X q s pc ls (v :: .ref (q.1 r i) :: rest) := by
  intro H locs hW hS
  obtain ⟨⟨hx, hb⟩, -, hown, hts, hK, -⟩ := g
  have hin : ∀ w ∈ u_ws C T (nfF r), w ∈ (Cond.code y cc nL ret :: wA) := fun w h => List.mem_cons_of_mem _ (hc.2.2.1 w h)
  have hap := va_apart (own := own) hts hin ty hc.2.2.2.1 hc.2.2.2.2.1 hK.1 hc.2.1
  obtain ⟨hcell, hB, -⟩ := hW.2.2.1 r i hp
  unfold cellAt at hcell
  rw [if_pos hc.1] at hcell
  obtain ⟨cell, q1, q2, q3, q4⟩ := hcell
  obtain ⟨hSl, hfc, kC, hkC, hkind⟩ := hK.1.1 (ciF r) _ hc.2.1
  obtain ⟨cf, kf, fi, f, hi, hsl⟩ := hSl k hk
  have hlay := hts _ (hin _ (u_in_lay hk))
  unfold u_lay at hlay
  rw [if_neg (by rw [hfin]; decide)] at hlay
  have hst := (u_facts hfc hkC (u_lays hts hin hk) hi).1
  have h6 := u_store hfc hkC hkind hlay hi (hc.2.2.2.1 k hk) hn hfit
  have hi2 : (xs X).fieldFound? C (T k).2.1 (T k).2.2.1 = some (cf, kf, fi, f) := by rw [← hc.2.2.2.2.2 k]; exact hi
  rcases hl with hl | ⟨host, hl⟩
  · refine W.putK hx hb (f := f) ⟨hown, hts _ (List.mem_cons_of_mem _ hl), ⟨_, _, _, hi2⟩, hst⟩ (by rw [q2]; exact h6) q1 q3 (by rw [hsl]; exact k2_hasslot (q4 k hk)) rfl rfl hdg fun H' e1 e2 e3 => ?_
    rw [hsl] at e1 ⊢
    exact kk H' _ (hx' H H' hW ⟨_, e1, q2, q3, t_set q4 hap hk v⟩ e2 (tot_put q1 e1 (setSlot_size _ _ _) e2 e3) e3) (hS.put e2 e3 hB)
  · refine va_WputK hx hb (f := f) hown (va_Nw.use rfl (hK.2.2.1 _ hl)) hi2 hst (by rw [q2]; exact h6) q1 q3 (by rw [hsl]; exact k2_hasslot (q4 k hk)) rfl rfl hdg fun H' e1 e2 e3 => ?_
    rw [hsl] at e1 ⊢
    exact kk H' _ (hx' H H' hW ⟨_, e1, q2, q3, t_set q4 hap hk v⟩ e2 (tot_put q1 e1 (setSlot_size _ _ _) e2 e3) e3) (hS.put e2 e3 hB)
/-- an int is read off a field -/
theorem ww_gI (g : Gd X y cc nL ret fr lo own) (hc : ClF r C T ty) (hp : prs s r i) (hk : k < nfF r) (hl : Fl own index C (T k).2.1 (T k).2.2.1) {f : Nat} (hf : 128 * r + k = f) (ht : tcG f = 0) (hdg : decode cc pc = .ok (.getfield index, 3))
    {kt : Int32 → M α} (h : oB (oGI f i) kt s = some o) (kk : ∀ v : Int32, kt v s = some o → WW X q s (pc + 3) ls (.int v :: rest)) : WW X q s pc ls (.ref (q.1 r i) :: rest) := by
  refine ww_get g hc hp hk hl hdg ?_
  have e : fv q s r i k = .int (gI s f i) := by unfold fv; rw [hf, ht]; rfl
  rw [e]
  exact kk _ h
theorem ww_gL (g : Gd X y cc nL ret fr lo own) (hc : ClF r C T ty) (hp : prs s r i) (hk : k < nfF r) (hl : Fl own index C (T k).2.1 (T k).2.2.1) {f : Nat} (hf : 128 * r + k = f) (ht : tcG f = 1) (hdg : decode cc pc = .ok (.getfield index, 3))
    {kt : Int64 → M α} (h : oB (oGL f i) kt s = some o) (kk : ∀ v : Int64, kt v s = some o → WW X q s (pc + 3) ls (.long v :: rest)) : WW X q s pc ls (.ref (q.1 r i) :: rest) := by
  refine ww_get g hc hp hk hl hdg ?_
  have e : fv q s r i k = .long (gL s f i) := by unfold fv; rw [hf, ht]; rfl
  rw [e]
  exact kk _ h
/-- what is its own -/
theorem ww_gR (g : Gd X y cc nL ret fr lo own) (hc : ClF r C T ty) (hp : prs s r i) (hk : k < nfF r) (hl : Fl own index C (T k).2.1 (T k).2.2.1) {f t : Nat} (hf : 128 * r + k = f) (ht : tcG f = 2) (htg : tgG f = t) (hdg : decode cc pc = .ok (.getfield index, 3))
    (kk : WW X q s (pc + 3) ls (.ref (q.1 t i) :: rest)) : WW X q s pc ls (.ref (q.1 r i) :: rest) := by
  refine ww_get g hc hp hk hl hdg ?_
  have e : fv q s r i k = .ref (q.1 t i) := by unfold fv; rw [hf, ht, htg]; rfl
  rw [e]
  exact kk
/-- one of a role, or none -/
theorem ww_gV (g : Gd X y cc nL ret fr lo own) (hc : ClF r C T ty) (hp : prs s r i) (hk : k < nfF r) (hl : Fl own index C (T k).2.1 (T k).2.2.1) {f t : Nat} (hf : 128 * r + k = f) (ht : tcG f = 4) (htg : tgG f = t) (hdg : decode cc pc = .ok (.getfield index, 3))
    {kt : Int32 → M α} (h : oB (oGI f i) kt s = some o) (kk : ∀ v : Int32, kt v s = some o → WW X q s (pc + 3) ls (vr q t v :: rest)) : WW X q s pc ls (.ref (q.1 r i) :: rest) := by
  refine ww_get g hc hp hk hl hdg ?_
  have e : fv q s r i k = vr q t (gI s f i) := by unfold fv; rw [hf, ht, htg]; rfl
  rw [e]
  exact kk _ h
/-- a row that is made later -/
theorem ww_g5 (g : Gd X y cc nL ret fr lo own) (hc : ClF r C T ty) (hp : prs s r i) (hk : k < nfF r) (hl : Fl own index C (T k).2.1 (T k).2.2.1) {f t f2 : Nat} (hf : 128 * r + k = f) (ht : tcG f = 5) (htg : tgG f = t) (hf2 : 128 * t + 127 = f2) (hdg : decode cc pc = .ok (.getfield index, 3))
    {kt : Int32 → M α} (h : oB (oGI f2 i) kt s = some o) (kk : ∀ v : Int32, v = gI s f2 i → kt v s = some o → WW X q s (pc + 3) ls ((if v = 1 then .ref (q.1 t i) else .null) :: rest)) : WW X q s pc ls (.ref (q.1 r i) :: rest) := by
  refine ww_get g hc hp hk hl hdg ?_
  have e : fv q s r i k = (if gI s f2 i = 1 then .ref (q.1 t i) else .null) := by unfold fv; rw [hf, ht, htg, ← hf2]; rfl
  rw [e]
  exact kk _ rfl h
theorem ww_pI (g : Gd X y cc nL ret fr lo own) (hc : ClF r C T ty) (hp : prs s r i) (hk : k < nfF r) (hl : Fl own index C (T k).2.1 (T k).2.2.1) (hfin : (T k).2.2.2 = false) {f : Nat} (hf : 128 * r + k = f) (ht : tcG f = 0) {x : Int32} (hn : narrow (ty k) (.int x) = .int x) (hfit : fits (ty k) (.int x) = true) (hdg : decode cc pc = .ok (.putfield index, 3))
    {kt : Unit → M α} (h : oB (oPI f i x) kt s = some o) (kk : ∀ s' : S1, s' = sI s f i x → kt () s' = some o → WW X q s' (pc + 3) ls rest) : WW X q s pc ls (.int x :: .ref (q.1 r i) :: rest) := by
  subst hf
  refine ww_put g hc hp hk hl hfin (s' := sI s (128 * r + k) i x) hn hfit (fun H H1 hW e z zt oq => ?_) hdg (kk _ rfl h)
  have hk2 := Nat.lt_of_lt_of_le hk (nfF_le r)
  have e2 : fv q (sI s (128 * r + k) i x) r i k = .int x := by unfold fv; rw [ht]; simp [gI_sI]
  exact hW.putI hp hc.1 hk2 (by rw [e2]; exact e) z zt oq
theorem ww_pV (g : Gd X y cc nL ret fr lo own) (hc : ClF r C T ty) (hp : prs s r i) (hk : k < nfF r) (hl : Fl own index C (T k).2.1 (T k).2.2.1) (hfin : (T k).2.2.2 = false) {f t : Nat} (hf : 128 * r + k = f) (ht : tcG f = 4) (htg : tgG f = t) {x : Int32} (hn : narrow (ty k) (vr q t x) = vr q t x) (hfit : fits (ty k) (vr q t x) = true) (hdg : decode cc pc = .ok (.putfield index, 3))
    {kt : Unit → M α} (h : oB (oPI f i x) kt s = some o) (kk : ∀ s' : S1, s' = sI s f i x → kt () s' = some o → WW X q s' (pc + 3) ls rest) : WW X q s pc ls (vr q t x :: .ref (q.1 r i) :: rest) := by
  subst hf
  refine ww_put g hc hp hk hl hfin (s' := sI s (128 * r + k) i x) hn hfit (fun H H1 hW e z zt oq => ?_) hdg (kk _ rfl h)
  have hk2 := Nat.lt_of_lt_of_le hk (nfF_le r)
  have e2 : fv q (sI s (128 * r + k) i x) r i k = vr q t x := by unfold fv; rw [ht, htg]; simp [gI_sI]
  exact hW.putI hp hc.1 hk2 (by rw [e2]; exact e) z zt oq
theorem ww_pL (g : Gd X y cc nL ret fr lo own) (hc : ClF r C T ty) (hp : prs s r i) (hk : k < nfF r) (hl : Fl own index C (T k).2.1 (T k).2.2.1) (hfin : (T k).2.2.2 = false) {f : Nat} (hf : 128 * r + k = f) (ht : tcG f = 1) {x : Int64} (hn : narrow (ty k) (.long x) = .long x) (hfit : fits (ty k) (.long x) = true) (hdg : decode cc pc = .ok (.putfield index, 3))
    {kt : Unit → M α} (h : oB (oPL f i x) kt s = some o) (kk : ∀ s' : S1, s' = sL s f i x → kt () s' = some o → WW X q s' (pc + 3) ls rest) : WW X q s pc ls (.long x :: .ref (q.1 r i) :: rest) := by
  subst hf
  refine ww_put g hc hp hk hl hfin (s' := sL s (128 * r + k) i x) hn hfit (fun H H1 hW e z zt oq => ?_) hdg (kk _ rfl h)
  have hk2 := Nat.lt_of_lt_of_le hk (nfF_le r)
  have e2 : fv q (sL s (128 * r + k) i x) r i k = .long x := by unfold fv; rw [ht]; simp [gL_sL]
  exact hW.putL hp hc.1 hk2 (by rw [e2]; exact e) z zt oq
/-! Rows. -/
theorem j_in {j n : Int32} {N : Nat} (h : 0 ≤ j ∧ j < n) (hn : n.toNatClampNeg = N) : ¬ (j < 0 ∨ N ≤ j.toNatClampNeg) := by
  subst hn
  obtain ⟨h1, h2⟩ := h
  have a1 := Int32.le_iff_toInt_le.mp h1
  have a2 := Int32.lt_iff_toInt_lt.mp h2
  have e1 : j.toNatClampNeg = j.toInt.toNat := rfl
  have e2 : n.toNatClampNeg = n.toInt.toNat := rfl
  rintro (z | z)
  · have a3 := Int32.lt_iff_toInt_lt.mp z
    omega
  · have a0 : (0 : Int32).toInt = 0 := rfl
    omega
theorem ar_cell {H : Heap} {a : Nat} (hW : Wd (xP X) q s H) (hp : prs s a i) (h0 : rkF a ≠ 0) (h6 : rkF a ≠ 6) : H[q.1 a i]? = some (arrV ((xP X).2.2.1 a) (lnS s a i) (av q s a i)) := by
  have hcell := (hW.2.2.1 a i hp).1
  unfold cellAt at hcell
  rwa [if_neg h0, avP_ne h6] at hcell
theorem oAI_in {a : Nat} {n i j : Int32} {kt : Int32 → M α} (h : oB (oAI a n i j) kt s = some o) : (0 ≤ j ∧ j < n) ∧ kt (gA s a i j) s = some o := by
  unfold oB oAI at h
  by_cases hj : 0 ≤ j ∧ j < n
  · rw [if_pos hj] at h
    exact ⟨hj, h⟩
  · rw [if_neg hj] at h
    cases h
theorem oAL_in {a : Nat} {n i j : Int32} {kt : Int64 → M α} (h : oB (oAL a n i j) kt s = some o) : (0 ≤ j ∧ j < n) ∧ kt (gB s a i j) s = some o := by
  unfold oB oAL at h
  by_cases hj : 0 ≤ j ∧ j < n
  · rw [if_pos hj] at h
    exact ⟨hj, h⟩
  · rw [if_neg hj] at h
    cases h
theorem oSI_in {a : Nat} {n i j x : Int32} {kt : Unit → M α} (h : oB (oSI a n i j x) kt s = some o) : (0 ≤ j ∧ j < n) ∧ kt () (sA s a i j x) = some o := by
  unfold oB oSI at h
  by_cases hj : 0 ≤ j ∧ j < n
  · rw [if_pos hj] at h
    exact ⟨hj, h⟩
  · rw [if_neg hj] at h
    cases h
theorem oSL_in {a : Nat} {n i j : Int32} {x : Int64} {kt : Unit → M α} (h : oB (oSL a n i j x) kt s = some o) : (0 ≤ j ∧ j < n) ∧ kt () (sB s a i j x) = some o := by
  unfold oB oSL at h
  by_cases hj : 0 ≤ j ∧ j < n
  · rw [if_pos hj] at h
    exact ⟨hj, h⟩
  · rw [if_neg hj] at h
    cases h
theorem oK_in {c : Prop} [Decidable c] {kt : Unit → M α} (h : oB (oK c) kt s = some o) : c ∧ kt () s = some o := by
  unfold oB oK at h
  by_cases hj : c
  · rw [if_pos hj] at h
    exact ⟨hj, h⟩
  · rw [if_neg hj] at h
    cases h
theorem av_i {a : Nat} (ha : rkF a = 1 ∨ rkF a = 2 ∨ rkF a = 3) (j : Nat) : av q s a i j = .int (gA s a i (Int32.ofNat j)) := by
  unfold av
  rcases ha with ha | ha | ha <;> rw [ha] <;> rfl
theorem ww_ai (g : Gd X y cc nL ret fr lo own) {a : Nat} {n j : Int32} (hp : prs s a i) (ha : rkF a = 1) (hn : n.toNatClampNeg = lnS s a i) (hdg : decode cc pc = .ok (.iaload, 1)) {kt : Int32 → M α} (h : oB (oAI a n i j) kt s = some o) (kk : ∀ v : Int32, kt v s = some o → WW X q s (pc + 1) ls (.int v :: rest)) : WW X q s pc ls (.int j :: .ref (q.1 a i) :: rest) := by
  intro H locs hW hS
  obtain ⟨⟨hx, hb⟩, -, hown, hts, hK, -⟩ := g
  obtain ⟨hj, h⟩ := oAI_in h
  have hin := j_in hj hn
  exact W.iald (v := .int (gA s a i j)) hx hb (ar_cell hW hp (by omega) (by omega)) ((hK.2.1 a).1 ha _ _) (fun z => by cases z) (by rw [arrV_size]; exact hin) (by rw [arrV_read _ _ (by omega), av_i (Or.inl ha), i_of_clamp hj.1]) rfl rfl hdg (kk _ h H locs hW hS)
theorem ww_ab (g : Gd X y cc nL ret fr lo own) {a : Nat} {n j : Int32} (hp : prs s a i) (ha : rkF a = 2) (hn : n.toNatClampNeg = lnS s a i) (hdg : decode cc pc = .ok (.baload, 1)) {kt : Int32 → M α} (h : oB (oAI a n i j) kt s = some o) (kk : ∀ v : Int32, kt v s = some o → WW X q s (pc + 1) ls (.int v :: rest)) : WW X q s pc ls (.int j :: .ref (q.1 a i) :: rest) := by
  intro H locs hW hS
  obtain ⟨⟨hx, hb⟩, -, hown, hts, hK, -⟩ := g
  obtain ⟨hj, h⟩ := oAI_in h
  have hin := j_in hj hn
  exact W.bald (v := .int (gA s a i j)) hx hb (ar_cell hW hp (by omega) (by omega)) ((hK.2.1 a).2.1 ha _ _) (fun z => by cases z) (by rw [arrV_size]; exact hin) (by rw [arrV_read _ _ (by omega), av_i (Or.inr (Or.inl ha)), i_of_clamp hj.1]) rfl rfl hdg (kk _ h H locs hW hS)
theorem ww_az (g : Gd X y cc nL ret fr lo own) {a : Nat} {n j : Int32} (hp : prs s a i) (ha : rkF a = 3) (hn : n.toNatClampNeg = lnS s a i) (hdg : decode cc pc = .ok (.baload, 1)) {kt : Int32 → M α} (h : oB (oAI a n i j) kt s = some o) (kk : ∀ v : Int32, kt v s = some o → WW X q s (pc + 1) ls (.int v :: rest)) : WW X q s pc ls (.int j :: .ref (q.1 a i) :: rest) := by
  intro H locs hW hS
  obtain ⟨⟨hx, hb⟩, -, hown, hts, hK, -⟩ := g
  obtain ⟨hj, h⟩ := oAI_in h
  have hin := j_in hj hn
  exact W.zald (v := .int (gA s a i j)) hx hb (ar_cell hW hp (by omega) (by omega)) ((hK.2.1 a).2.2.1 ha _ _) (fun z => by cases z) (by rw [arrV_size]; exact hin) (by rw [arrV_read _ _ (by omega), av_i (Or.inr (Or.inr ha)), i_of_clamp hj.1]) rfl rfl hdg (kk _ h H locs hW hS)
theorem ww_al (g : Gd X y cc nL ret fr lo own) {a : Nat} {n j : Int32} (hp : prs s a i) (ha : rkF a = 4) (hn : n.toNatClampNeg = lnS s a i) (hdg : decode cc pc = .ok (.laload, 1)) {kt : Int64 → M α} (h : oB (oAL a n i j) kt s = some o) (kk : ∀ v : Int64, kt v s = some o → WW X q s (pc + 1) ls (.long v :: rest)) : WW X q s pc ls (.int j :: .ref (q.1 a i) :: rest) := by
  intro H locs hW hS
  obtain ⟨⟨hx, hb⟩, -, hown, hts, hK, -⟩ := g
  obtain ⟨hj, h⟩ := oAL_in h
  have hin := j_in hj hn
  exact W.lald (v := .long (gB s a i j)) hx hb (ar_cell hW hp (by omega) (by omega)) ((hK.2.1 a).2.2.2.1 ha _ _) (fun z => by cases z) (by rw [arrV_size]; exact hin) (by rw [arrV_read _ _ (by omega)]; unfold av; rw [ha]; show some (Value.long (gB s a i (Int32.ofNat _))) = _; rw [i_of_clamp hj.1]) rfl rfl hdg (kk _ h H locs hW hS)
/-- one of a row of objects that are all there -/
theorem ww_at (g : Gd X y cc nL ret fr lo own) {a t : Nat} {n j : Int32} (hp : prs s a i) (ha : rkF a = 5) (ht : teF a = t) (hn : n.toNatClampNeg = lnS s a i) (hdg : decode cc pc = .ok (.aaload, 1)) {kt : Unit → M α} (h : oB (oK (0 ≤ j ∧ j < n)) kt s = some o) (kk : 0 ≤ j ∧ j < n → kt () s = some o → WW X q s (pc + 1) ls (.ref (q.1 t j) :: rest)) : WW X q s pc ls (.int j :: .ref (q.1 a i) :: rest) := by
  intro H locs hW hS
  obtain ⟨⟨hx, hb⟩, -, hown, hts, hK, -⟩ := g
  obtain ⟨hj, h⟩ := oK_in h
  have hin := j_in hj hn
  obtain ⟨C, hC⟩ := (hK.2.1 a).2.2.2.2 (by omega) (by omega)
  exact W.aald (v := .ref (q.1 t j)) (ty := .object C) hx hb (ar_cell hW hp (by omega) (by omega)) (hC _ _) rfl (fun z => by cases z) (by rw [arrV_size]; exact hin) (by rw [arrV_read _ _ (by omega)]; unfold av; rw [ha]; show some (Value.ref (q.1 (teF a) (Int32.ofNat _))) = _; rw [i_of_clamp hj.1, ht]) rfl rfl hdg (kk hj h H locs hW hS)
theorem ww_si (g : Gd X y cc nL ret fr lo own) {a : Nat} {n j x : Int32} (hp : prs s a i) (ha : rkF a = 1) (hn : n.toNatClampNeg = lnS s a i) (hdg : decode cc pc = .ok (.iastore, 1)) {kt : Unit → M α} (h : oB (oSI a n i j x) kt s = some o) (kk : ∀ s' : S1, s' = sA s a i j x → kt () s' = some o → WW X q s' (pc + 1) ls rest) : WW X q s pc ls (.int x :: .int j :: .ref (q.1 a i) :: rest) := by
  intro H locs hW hS
  obtain ⟨⟨hx, hb⟩, -, hown, hts, hK, -⟩ := g
  obtain ⟨hj, h⟩ := oSI_in h
  have hin := j_in hj hn
  refine W.iast hx hb (ar_cell hW hp (by omega) (by omega)) ((hK.2.1 a).1 ha _ _) (fun z => by cases z) (by rw [arrV_size]; exact hin) rfl rfl hdg fun H1 e z oq => ?_
  exact kk _ rfl h H1 _ (hW.putA hp (Or.inl ha) (fun z2 => by omega) hj.1 e z oq) (hS.put z oq (hW.2.2.1 a i hp).2.1)
theorem ww_sb (g : Gd X y cc nL ret fr lo own) {a : Nat} {n j x : Int32} (hp : prs s a i) (ha : rkF a = 2) (hn : n.toNatClampNeg = lnS s a i) (hdg : decode cc pc = .ok (.bastore, 1)) {kt : Unit → M α} (h : oB (oSI a n i j (x.toInt8.toInt32)) kt s = some o) (kk : ∀ s' : S1, s' = sA s a i j (x.toInt8.toInt32) → kt () s' = some o → WW X q s' (pc + 1) ls rest) : WW X q s pc ls (.int x :: .int j :: .ref (q.1 a i) :: rest) := by
  intro H locs hW hS
  obtain ⟨⟨hx, hb⟩, -, hown, hts, hK, -⟩ := g
  obtain ⟨hj, h⟩ := oSI_in h
  have hin := j_in hj hn
  refine W.bast hx hb (ar_cell hW hp (by omega) (by omega)) ((hK.2.1 a).2.1 ha _ _) (fun z => by cases z) (by rw [arrV_size]; exact hin) rfl rfl hdg fun H1 e z oq => ?_
  exact kk _ rfl h H1 _ (hW.putA hp (Or.inr (Or.inl ha)) (fun _ => Jvm.Joins.fits_int8 _) hj.1 e z oq) (hS.put z oq (hW.2.2.1 a i hp).2.1)
theorem ww_sz (g : Gd X y cc nL ret fr lo own) {a : Nat} {n j x : Int32} (hp : prs s a i) (ha : rkF a = 3) (hn : n.toNatClampNeg = lnS s a i) (hdg : decode cc pc = .ok (.bastore, 1)) {kt : Unit → M α} (h : oB (oSI a n i j (vp_nar .boolean x)) kt s = some o) (kk : ∀ s' : S1, s' = sA s a i j (vp_nar .boolean x) → kt () s' = some o → WW X q s' (pc + 1) ls rest) : WW X q s pc ls (.int x :: .int j :: .ref (q.1 a i) :: rest) := by
  intro H locs hW hS
  obtain ⟨⟨hx, hb⟩, -, hown, hts, hK, -⟩ := g
  obtain ⟨hj, h⟩ := oSI_in h
  have hin := j_in hj hn
  refine W.zast hx hb (ar_cell hW hp (by omega) (by omega)) ((hK.2.1 a).2.2.1 ha _ _) (fun z => by cases z) (by rw [arrV_size]; exact hin) rfl rfl hdg fun H1 e z oq => ?_
  exact kk _ rfl h H1 _ (hW.putA hp (Or.inr (Or.inr ha)) (fun z2 => by omega) hj.1 e z oq) (hS.put z oq (hW.2.2.1 a i hp).2.1)
theorem ww_sl (g : Gd X y cc nL ret fr lo own) {a : Nat} {n j : Int32} {x : Int64} (hp : prs s a i) (ha : rkF a = 4) (hn : n.toNatClampNeg = lnS s a i) (hdg : decode cc pc = .ok (.lastore, 1)) {kt : Unit → M α} (h : oB (oSL a n i j x) kt s = some o) (kk : ∀ s' : S1, s' = sB s a i j x → kt () s' = some o → WW X q s' (pc + 1) ls rest) : WW X q s pc ls (.long x :: .int j :: .ref (q.1 a i) :: rest) := by
  intro H locs hW hS
  obtain ⟨⟨hx, hb⟩, -, hown, hts, hK, -⟩ := g
  obtain ⟨hj, h⟩ := oSL_in h
  have hin := j_in hj hn
  refine W.last hx hb (ar_cell hW hp (by omega) (by omega)) ((hK.2.1 a).2.2.2.1 ha _ _) (fun z => by cases z) (by rw [arrV_size]; exact hin) rfl rfl hdg fun H1 e z oq => ?_
  exact kk _ rfl h H1 _ (hW.putB hp ha hj.1 e z oq) (hS.put z oq (hW.2.2.1 a i hp).2.1)
/-! The ways out. -/
theorem ww_iret (g : Gd X y cc nL (some .int) fr lo own) {v : Int32} (hR : Rt X q s (some (.int v))) (hdg : decode cc pc = .ok (.ireturn, 1)) : WW X q s pc ls [.int v] := by
  intro H locs hW hS
  obtain ⟨⟨hx, hb⟩, -, hown, hts, hK, -, hr, hlk⟩ := g
  rw [hR]
  exact W.iret hx hb hr (fun t ht _ => ⟨rfl, by rw [ht]; exact hW, hS.F ht⟩) hS.2.2 hdg hlk
theorem ww_zret (g : Gd X y cc nL (some .boolean) fr lo own) {v : Int32} (hR : Rt X q s (some (.int v))) (hn : narrow .boolean (.int v) = .int v) (hdg : decode cc pc = .ok (.ireturn, 1)) : WW X q s pc ls [.int v] := by
  intro H locs hW hS
  obtain ⟨⟨hx, hb⟩, -, hown, hts, hK, -, hr, hlk⟩ := g
  rw [hR]
  exact W.zret hx hb hr hn (fun t ht _ => ⟨rfl, by rw [ht]; exact hW, hS.F ht⟩) hS.2.2 hdg hlk
theorem ww_lret (g : Gd X y cc nL (some .long) fr lo own) {v : Int64} (hR : Rt X q s (some (.long v))) (hdg : decode cc pc = .ok (.lreturn, 1)) : WW X q s pc ls [.long v] := by
  intro H locs hW hS
  obtain ⟨⟨hx, hb⟩, -, hown, hts, hK, -, hr, hlk⟩ := g
  rw [hR]
  exact W.lret hx hb hr (fun t ht _ => ⟨rfl, by rw [ht]; exact hW, hS.F ht⟩) hS.2.2 hdg hlk
theorem ww_vret (g : Gd X y cc nL none fr lo own) (hR : Rt X q s none) (hdg : decode cc pc = .ok (.return_, 1)) : WW X q s pc ls [] := by
  intro H locs hW hS
  obtain ⟨⟨hx, hb⟩, -, hown, hts, hK, -, hr, hlk⟩ := g
  rw [hR]
  exact W.vret hx hb hr (fun t ht _ => ⟨rfl, by rw [ht]; exact hW, hS.F ht⟩) hS.2.2 hdg hlk
theorem ww_aret (g : Gd X y cc nL ret fr lo own) {rt : FieldType} (hret : ret = some rt) {v : Value} (hrt : (∃ n, rt = .object n) ∨ ∃ t, rt = .array t) (hv : v = .null ∨ ∃ a, v = .ref a) (hR : Rt X q s (some v)) (hdg : decode cc pc = .ok (.areturn, 1)) : WW X q s pc ls [v] := by
  intro H locs hW hS
  obtain ⟨⟨hx, hb⟩, -, hown, hts, hK, -, hr, hlk⟩ := g
  rw [hR]
  exact W.aret hx hb (hr.trans hret) hrt hv (fun t ht _ => ⟨rfl, by rw [ht]; exact hW, hS.F ht⟩) hS.2.2 hdg hlk
end AC
