/-! Rows and objects that are made. -/
def qU (q : PL) (t : Nat) (i : Int32) (n : Nat) : PL := (fun r' i' => if r' = t ∧ i' = i then q.2.1 else q.1 r' i', q.2.1 + 1, q.2.2 + n)
theorem qU_at (q : PL) (r : Nat) (i : Int32) (n : Nat) : (qU q r i n).1 r i = q.2.1 := by simp [qU]
theorem qU_ne {q : PL} {r r' : Nat} {i i' : Int32} {n : Nat} (h : ¬ (r' = r ∧ i' = i)) : (qU q r i n).1 r' i' = q.1 r' i' := by simp [qU, h]
/-- a new row: it is there, it is so long, all nought -/
def nwR (s : S1) (t : Nat) (i : Int32) (N : Nat) : S1 := (fun f x => if f = 128 * t + 127 ∧ x = i then 1 else if f = 128 * t + 126 ∧ x = i then Int32.ofNat N else s.1 f x, s.2.1, fun r x y => if r = t ∧ x = i then 0 else s.2.2.1 r x y, fun r x y => if r = t ∧ x = i then 0 else s.2.2.2 r x y)
/-- a new object: it is there, its numbers are nought, its refs are none -/
def nwO (s : S1) (t : Nat) (i : Int32) : S1 := (fun f x => if f / 128 = t ∧ x = i then (if f % 128 = 127 then 1 else if tcG f = 4 then -1 else 0) else s.1 f x, fun f x => if f / 128 = t ∧ x = i then 0 else s.2.1 f x, s.2.2)
theorem gI_nwR (s : S1) (t f N : Nat) (i x : Int32) : gI (nwR s t i N) f x = if f = 128 * t + 127 ∧ x = i then 1 else if f = 128 * t + 126 ∧ x = i then Int32.ofNat N else gI s f x := rfl
theorem gL_nwR (s : S1) (t f N : Nat) (i x : Int32) : gL (nwR s t i N) f x = gL s f x := rfl
theorem gA_nwR (s : S1) (t r N : Nat) (i x y : Int32) : gA (nwR s t i N) r x y = if r = t ∧ x = i then 0 else gA s r x y := rfl
theorem gB_nwR (s : S1) (t r N : Nat) (i x y : Int32) : gB (nwR s t i N) r x y = if r = t ∧ x = i then 0 else gB s r x y := rfl
theorem gI_nwO (s : S1) (t f : Nat) (i x : Int32) : gI (nwO s t i) f x = if f / 128 = t ∧ x = i then (if f % 128 = 127 then 1 else if tcG f = 4 then -1 else 0) else gI s f x := rfl
theorem gL_nwO (s : S1) (t f : Nat) (i x : Int32) : gL (nwO s t i) f x = if f / 128 = t ∧ x = i then 0 else gL s f x := rfl
theorem gA_nwO (s : S1) (t r : Nat) (i x y : Int32) : gA (nwO s t i) r x y = gA s r x y := rfl
theorem gB_nwO (s : S1) (t r : Nat) (i x y : Int32) : gB (nwO s t i) r x y = gB s r x y := rfl
theorem sm_nwR {q : PL} {s : S1} {t N M : Nat} {i : Int32} : Sm t i q (qU q t i M) s (nwR s t i N) := by
  refine ⟨fun r x h => qU_ne h, fun r k x hk h => ⟨?_, rfl⟩, fun r x y h => ⟨by rw [gA_nwR, if_neg h], by rw [gB_nwR, if_neg h]⟩⟩
  rw [gI_nwR, if_neg fun z => h ⟨by omega, z.2⟩, if_neg fun z => h ⟨by omega, z.2⟩]
theorem sm_nwO {q : PL} {s : S1} {t M : Nat} {i : Int32} : Sm t i q (qU q t i M) s (nwO s t i) := by
  refine ⟨fun r x h => qU_ne h, fun r k x hk h => ⟨?_, ?_⟩, fun r x y h => ⟨rfl, rfl⟩⟩
  · rw [gI_nwO, if_neg fun z => h ⟨by omega, z.2⟩]
  · rw [gL_nwO, if_neg fun z => h ⟨by omega, z.2⟩]
theorem Sm.fk {t : Nat} {j : Int32} {q q' : PL} {s s' : S1} (h : Sm t j q q' s s') {r k : Nat} {i : Int32} (hne : ¬ (r = t ∧ i = j)) (hk1 : k < 128) (hf : tgG (128 * r + k) ≠ t) : fv q' s' r i k = fv q s r i k := by
  obtain ⟨e1, e2⟩ := h.2.1 r k i hk1 hne
  have hz : ∀ x : Int32, ¬ (tgG (128 * r + k) = t ∧ x = j) := fun x z => hf z.1
  unfold fv
  split
  · rw [e1]
  · rw [e2]
  · rw [h.1 _ _ (hz _)]
  · rw [e1]
    unfold vr
    rw [h.1 _ _ (hz _)]
  · rw [h.1 _ _ (hz _), (h.2.1 _ 127 _ (by decide) (hz _)).1]
  · rfl
/-- one field alone may hold it -/
theorem nrf1 {s : S1} {t r0 k : Nat} {j : Int32} (h1 : hoF t = [128 * r0 + k]) (h2 : hrF t = []) (h3 : tcG (128 * r0 + k) ≠ 4) (hk : k < 126) (r : Nat) (i : Int32) (hp : prs s r i) (hne : ¬ (r = r0 ∧ i = j)) : ¬ Rfr s r i t j := by
  intro h
  rcases h.of (big_np hp) with ⟨k2, hk2, h4, h5⟩ | ⟨h4, -⟩
  · rw [h1] at h4
    have h6 := List.mem_singleton.mp h4
    have hr : r = r0 := by have := nfF_le r; omega
    rcases h5 with ⟨-, h5⟩ | ⟨h5, -⟩
    · exact hne ⟨hr, h5⟩
    · rw [h6] at h5
      exact h3 h5
  · rw [h2] at h4
    cases h4
theorem nrf0 {s : S1} {t : Nat} {j : Int32} (h1 : hoF t = []) (h2 : hrF t = []) (r : Nat) (i : Int32) (hp : prs s r i) : ¬ Rfr s r i t j := by
  intro h
  rcases h.of (big_np hp) with ⟨k2, hk2, h4, -⟩ | ⟨h4, -⟩
  · rw [h1] at h4
    cases h4
  · rw [h2] at h4
    cases h4
/-- two fields, and what has the one isn't there -/
theorem nrf2 {s : S1} {t r0 r1 k k1 : Nat} {j : Int32} (h1 : hoF t = [128 * r1 + k1, 128 * r0 + k]) (h2 : hrF t = []) (h3 : tcG (128 * r0 + k) ≠ 4 ∧ tcG (128 * r1 + k1) ≠ 4) (hk : k < 126 ∧ k1 < 126) (hn : ¬ prs s r1 j) (r : Nat) (i : Int32) (hp : prs s r i) (hne : ¬ (r = r0 ∧ i = j)) : ¬ Rfr s r i t j := by
  intro h
  rcases h.of (big_np hp) with ⟨k2, hk2, h4, h5⟩ | ⟨h4, -⟩
  · rw [h1] at h4
    have hb := nfF_le r
    rcases List.mem_cons.mp h4 with h6 | h6
    · have hr : r = r1 := by omega
      rcases h5 with ⟨-, h5⟩ | ⟨h5, -⟩
      · exact hn (hr ▸ h5 ▸ hp)
      · rw [h6] at h5
        exact h3.2 h5
    · have h6 := List.mem_singleton.mp h6
      have hr : r = r0 := by omega
      rcases h5 with ⟨-, h5⟩ | ⟨h5, -⟩
      · exact hne ⟨hr, h5⟩
      · rw [h6] at h5
        exact h3.1 h5
  · rw [h2] at h4
    cases h4
theorem Rmq.tk {P : PP} {q : PL} {n : Nat × Nat} {t N : Nat} {i : Int32} (h : Rmq P q n) (hn : 1 ≤ n.1 ∧ N ≤ n.2) : Rmq P (qU q t i N) (n.1 - 1, n.2 - N) ∧ (q.2.1 + 1 ≤ P.2.2.2.1 ∧ q.2.2 + N ≤ P.2.2.2.2) := by
  obtain ⟨h1, h2⟩ := h
  refine ⟨⟨?_, ?_⟩, ?_, ?_⟩
  · show q.2.1 + 1 + (n.1 - 1) + _ ≤ _
    omega
  · show q.2.2 + N + (n.2 - N) + _ ≤ _
    omega
  · omega
  · omega
theorem exU {P : PP} {L : List Nat} {q : PL} {t N : Nat} {i : Int32} (h : t ∈ L ∨ ¬ q.1 t i < P.2.2.2.1) : Exq P L q (qU q t i N) := fun r x hL hx => by
  refine qU_ne fun z => ?_
  obtain ⟨rfl, rfl⟩ := z
  rcases h with h | h
  · exact hL h
  · exact h hx
theorem tot_grow {H H1 : Heap} {c : Cell} (z : H1.size = H.size + 1) (e : H1[H.size]? = some c) (oq : ∀ a : Nat, a < H.size → H1[a]? = H[a]?) : tot H1 = tot H + c.slots.size := by
  have : H1 = H.push c := by
    apply Array.ext_getElem?
    intro a
    rw [Array.getElem?_push]
    by_cases h : a = H.size
    · subst h
      simp [e]
    · rw [if_neg h]
      by_cases h2 : a < H.size
      · exact oq a h2
      · rw [Array.getElem?_eq_none (by omega), Array.getElem?_eq_none (by omega)]
  rw [this, tot_push]
/-- the value of a blank element -/
def zV (r : Nat) : Value := match rkF r with
  | 4 => .long 0
  | 5 => .null
  | 8 => .null
  | 9 => .null
  | _ => .int 0
theorem cell_nwR {P : PP} {q : PL} {s : S1} {t N : Nat} {i : Int32} {H1 : Heap} (hk : rkF t = 1 ∨ rkF t = 2 ∨ rkF t = 4 ∨ (rkF t = 9 ∧ t ≠ teF t ∧ ∀ x, x < N → gI s (128 * teF t + 127) (i * 200 + Int32.ofNat x) ≠ 1)) (hN : N < 2147483648) (hl : lnF t = 0 ∨ lnF t = N)
    (e : H1[q.2.1]? = some (arrV (P.2.2.1 t) N (fun _ => zV t))) : cellAt P (qU q t i N) (nwR s t i N) t i H1 ∧ lnS (nwR s t i N) t i < 2147483648 := by
  have hL : lnS (nwR s t i N) t i = N := by
    unfold lnS
    by_cases h0 : lnF t = 0
    · rw [if_pos h0, gI_nwR, if_neg (by omega), if_pos ⟨rfl, rfl⟩]
      exact nI_clamp hN
    · rw [if_neg h0]
      omega
  refine ⟨?_, by rw [hL]; exact hN⟩
  unfold cellAt
  rw [if_neg (by rcases hk with h | h | h | h <;> omega), qU_at, e, hL, avP_ne (by rcases hk with h | h | h | h <;> omega)]
  refine congrArg some (arrV_congr fun x hx => ?_)
  rcases hk with h | h | h | ⟨h, ht, hx2⟩
  · rw [av_i (Or.inl h), gA_nwR, if_pos ⟨rfl, rfl⟩]
    unfold zV
    rw [h]
    rfl
  · rw [av_i (Or.inr (Or.inl h)), gA_nwR, if_pos ⟨rfl, rfl⟩]
    unfold zV
    rw [h]
    rfl
  · unfold zV av
    rw [h]
    show Value.long 0 = .long _
    rw [gB_nwR, if_pos ⟨rfl, rfl⟩]
  · unfold zV av
    rw [h]
    show Value.null = if _ then _ else _
    rw [if_neg]
    rw [gI_nwR, if_neg fun z => ht (by omega), if_neg (by omega)]
    exact hx2 x hx
theorem byR {s : S1} {t N : Nat} {i : Int32} : rkF t = 2 → ∀ x, fits .byte (.int (gA (nwR s t i N) t i x)) = true := fun _ x => by
  rw [gA_nwR, if_pos ⟨rfl, rfl⟩]
  rfl
theorem kd_nw {t : Nat} {i : Int32} {q q' : PL} {s s' : S1} (hs : Sm t i q q' s s') (ht : t ≠ 148) (hp : prs s' t i) (h : Kd s) : Kd s' := by
  intro c hc
  have up : ∀ r x, prs s r x → prs s' r x := fun r x hx => by
    by_cases z : r = t ∧ x = i
    · rw [z.1, z.2]
      exact hp
    · exact (hs.p z).mpr hx
  obtain ⟨a, b, d, e⟩ := h c ((hs.p fun z => ht z.1.symm).mp hc)
  exact ⟨up _ _ a, up _ _ b, up _ _ d, fun j hj => up _ _ (e j hj)⟩
theorem prs_nwR {s : S1} {t N : Nat} {i : Int32} (hi : 0 ≤ i ∧ i.toNatClampNeg < cnF t) : prs (nwR s t i N) t i := ⟨fun _ => by rw [gI_nwR, if_pos ⟨rfl, rfl⟩], hi.1, hi.2⟩
theorem prs_nwO {s : S1} {t : Nat} {i : Int32} (hi : 0 ≤ i ∧ i.toNatClampNeg < cnF t) : prs (nwO s t i) t i := ⟨fun _ => by rw [gI_nwO, if_pos ⟨by omega, rfl⟩, if_pos (by omega)], hi.1, hi.2⟩
theorem Wd.fresh {P : PP} {q : PL} {s : S1} {H : Heap} (h : Wd P q s H) (r : Nat) (i : Int32) (hp : prs s r i) : q.1 r i < q.2.1 := by
  have := cellAt_lt (h.2.2.1 r i hp).1
  rw [h.1] at this
  exact this
/-- the base lies below the heap's end -/
theorem Wd.base {P : PP} {q : PL} {s : S1} {H : Heap} (h : Wd P q s H) : P.1 ≤ q.2.1 := by
  have hp : prs s 0 0 := ⟨fun e => absurd e (by decide), by decide, by decide⟩
  have h1 := (h.2.2.1 0 0 hp).2.1
  have h2 := h.fresh 0 0 hp
  omega
section MD
variable {X : Cx} {q : PL} {s : S1} {y : MethodName} {cc : ByteArray} {nL : Nat} {ret : Option FieldType} {fr lo : Nat} {own : String} {pc : Nat} {ls : Array Slot} {rest : List Value} {α : Type} {o : α × S1} {L : List Nat} {m : Nat × Nat} {t : Nat} {i n : Int32}
theorem atN {t : Nat} {at0 : ArrayType} (hat : newarray.typeOf at0 = atF t) (hk : rkF t = 1 ∨ rkF t = 2 ∨ rkF t = 4) : defaultValue (newarray.typeOf at0) = zV t ∧ componentBytes (newarray.typeOf at0) ≤ 8 ∧ ∀ {U : State} {c : ClassId}, va_RA U c (atF t) → U.vm.findClass ("[" ++ (newarray.typeOf at0).toString) = some c := by
  rw [hat]
  unfold atF zV
  rcases hk with h | h | h <;> rw [h] <;> exact ⟨rfl, by first | exact (by decide : componentBytes .int ≤ 8) | exact (by decide : componentBytes .byte ≤ 8) | exact (by decide : componentBytes .long ≤ 8), fun z => z⟩
/-- a row that no field holds -/
theorem ww_nwT (g : Gd X y cc nL ret fr lo own) {at0 : ArrayType} (hat : newarray.typeOf at0 = atF t) (hk : rkF t = 1 ∨ rkF t = 2 ∨ rkF t = 4) (ht : t ≠ 148) (hi : 0 ≤ i ∧ i.toNatClampNeg < cnF t) (hl : lnF t = 0 ∨ lnF t = n.toNatClampNeg) (hh : hoF t = [] ∧ hrF t = []) (hL : t ∈ L) (hw : Cond.arrayClass (newarray.typeOf at0) ∈ wA) (hm : Rmq (xP X) q m) (hdg : decode cc pc = .ok (.newarray at0, 2)) (hn : 0 ≤ n ∧ n ≤ 60000000)
    {kt : Nat × Nat → M α} {kt2 : Nat × Nat → Unit → M α} (h : oB (oNw m n.toNatClampNeg) kt s = some o) (hkt : ∀ m', kt m' = oB (oS fun s => nwR s t i n.toNatClampNeg) (kt2 m')) (kk : ∀ (q' : PL) (m' : Nat × Nat) (s' : S1), s' = nwR s t i n.toNatClampNeg → Exq (xP X) L q q' → Rmq (xP X) q' m' → prs s' t i → kt2 m' () s' = some o → WW X q' s' (pc + 2) ls (.ref (q'.1 t i) :: rest)) : WW X q s pc ls (.int n :: rest) := by
  intro H locs hW hS
  obtain ⟨⟨hx, hb⟩, hml, hown, hts, hK, ⟨hR1, hR2, hR3, hR4⟩, -⟩ := g
  obtain ⟨hr, h⟩ := oNw_in h
  rw [hkt] at h
  have h : kt2 _ () (nwR s t i n.toNatClampNeg) = some o := h
  obtain ⟨hm1, hm2⟩ := hm.tk (t := t) (i := i) hr
  have e1 := hW.1
  have e2 := hW.2.1
  have hN : n.toNatClampNeg ≤ 60000000 := by
    have a1 := Int32.le_iff_toInt_le.mp hn.2
    have e3 : n.toNatClampNeg = n.toInt.toNat := rfl
    have e4 : (60000000 : Int32).toInt = 60000000 := rfl
    omega
  obtain ⟨z1, z2, z3⟩ := atN hat hk
  refine w_grow fun g1 g2 => ?_
  refine w_tight (k := H.size - (xs X).heap.size) (n := tot H - tot (xs X).heap) (by omega) (by omega) ?_
  refine va_newaK hx hb (hts _ (List.mem_cons_of_mem _ hw)) rfl hdg rfl (Int32.not_lt.mpr hn.1) rfl (Nat.le_trans (Nat.mul_le_mul hN z2) (by decide)) (by rw [hR3]; unfold cC; omega) (by rw [hR4]; unfold cS; omega) rfl fun H1 cA a1 a2 a3 hAr hNm => ?_
  have hRA := (hK.2.2.2.2 t (by omega) (by omega)).2
  have hcA : cA = (xP X).2.2.1 t := Option.some.inj (hNm.symm.trans (z3 hRA))
  subst hcA
  rw [z1] at a1
  obtain ⟨c1, c2⟩ := cell_nwR (P := xP X) (q := q) (s := s) (i := i) (H1 := H1) (by rcases hk with h | h | h <;> simp [h]) (by omega) hl (by rw [← e1]; exact a1)
  have hp := prs_nwR (s := s) (N := n.toNatClampNeg) hi
  have hW1 : Wd (xP X) (qU q t i n.toNatClampNeg) (nwR s t i n.toNatClampNeg) H1 :=
    hW.mk sm_nwR (by show H1.size = q.2.1 + 1; omega) (by show tot H1 = q.2.2 + _; rw [tot_grow a2 a1 a3, arrV_size, e2]) hm2 (fun _ _ => False) (fun r x hp hne _ => ⟨a3 _ (by rw [e1]; exact hW.fresh r x hp), nrf0 hh.1 hh.2 r x hp⟩) (fun _ _ _ _ z => z.elim) ⟨c1, by rw [qU_at]; exact hW.base, c2, fun r x hp _ => by rw [qU_at]; exact Nat.ne_of_lt (hW.fresh r x hp)⟩ hp (kd_nw (sm_nwR (q := q) (M := 0)) ht hp hW.2.2.2.2.2.2.2.2) byR
  have hS1 : va_S (fun a => (xP X).1 ≤ a) (xs X).heap H1 locs := ⟨by omega, fun a b1 b2 => (a3 a (Nat.lt_of_lt_of_le b1 hS.1)).trans (hS.2.1 a b1 b2), hS.2.2⟩
  have k2 := kk _ _ _ rfl (exU (Or.inl hL)) hm1 hp h H1 locs hW1 hS1
  rw [qU_at] at k2
  refine W.widen (k := cC (xP X) (xs X).heap.size) (n := cS (xP X) (tot (xs X).heap)) (by unfold cC; omega) (by unfold cS; omega) ?_
  rw [e1]
  exact k2
/-- a field is written, the heap alone -/
theorem rw_put (g : Gd X y cc nL ret fr lo own) {r a k index : Nat} {C : String} {T : u_T} {ty : Nat → FieldType} {H : Heap} {locs : List Loc} {cells slots : Nat} {V : Nat → Value} {v : Value} (hc : ClF r C T ty) (hcell : t_OB a ((xP X).2.1.1 (ciF r)) (nfF r) ((xP X).2.1.2 (ciF r)) H V) (hk : k < nfF r) (hl : Fl own index C (T k).2.1 (T k).2.2.1) (hfin : (T k).2.2.2 = false ∨ ((T k).2.2.2 = true ∧ (xh X).name = "<init>" ∧ C = own ∧ Cond.fieldLink own index C (T k).2.1 (T k).2.2.1 ∈ wA)) (hn : narrow (ty k) v = v) (hfit : fits (ty k) v = true) (hB : (xP X).1 ≤ a) (hS : va_S (fun a => (xP X).1 ≤ a) (xs X).heap H locs) (hdg : decode cc pc = .ok (.putfield index, 3))
    (kk : ∀ (H1 : Heap) (locs1 : List Loc), t_OB a ((xP X).2.1.1 (ciF r)) (nfF r) ((xP X).2.1.2 (ciF r)) H1 (updV V k v) → H1.size = H.size → tot H1 = tot H → (∀ b : Nat, b ≠ a → H1[b]? = H[b]?) → va_S (fun a => (xP X).1 ≤ a) (xs X).heap H1 locs1 → W (xp X) (xl X) (xe X) (xR X) (xs X) (xm X) (xa X) (xb X) (xh X) (xc X) H1 locs1 cells slots (xq X) (F0 (xm X) (pc + 3) ls rest)) :
    W (xp X) (xl X) (xe X) (xR X) (xs X) (xm X) (xa X) (xb X) (xh X) (xc X) H locs cells slots (xq X) (F0 (xm X) pc ls (v :: .ref a :: rest)) := by
  obtain ⟨⟨hx, hb⟩, -, hown, hts, hK, -⟩ := g
  have hin : ∀ w ∈ u_ws C T (nfF r), w ∈ (Cond.code y cc nL ret :: wA) := fun w h => List.mem_cons_of_mem _ (hc.2.2.1 w h)
  have hap := va_apart (own := own) hts hin ty hc.2.2.2.1 hc.2.2.2.2.1 hK.1 hc.2.1
  obtain ⟨cell, q1, q2, q3, q4⟩ := hcell
  obtain ⟨hSl, hfc, kC, hkC, hkind⟩ := hK.1.1 (ciF r) _ hc.2.1
  obtain ⟨cf, kf, fi, f, hi, hsl⟩ := hSl k hk
  have hlay := hts _ (hin _ (u_in_lay hk))
  have hst := (u_facts hfc hkC (u_lays hts hin hk) hi).1
  have hi2 : (xs X).fieldFound? C (T k).2.1 (T k).2.2.1 = some (cf, kf, fi, f) := by rw [← hc.2.2.2.2.2 k]; exact hi
  rcases hfin with hfin | ⟨hfin, hin2, hCo, hl2⟩
  · unfold u_lay at hlay
    rw [if_neg (by rw [hfin]; decide)] at hlay
    have h6 := u_store hfc hkC hkind hlay hi (hc.2.2.2.1 k hk) hn hfit
    rcases hl with hl | ⟨host, hl⟩
    · refine W.putK hx hb (f := f) ⟨hown, hts _ (List.mem_cons_of_mem _ hl), ⟨_, _, _, hi2⟩, hst⟩ (by rw [q2]; exact h6) q1 q3 (by rw [hsl]; exact k2_hasslot (q4 k hk)) rfl rfl hdg fun H' e1 e2 e3 => ?_
      rw [hsl] at e1 ⊢
      exact kk H' _ ⟨_, e1, q2, q3, t_set q4 hap hk v⟩ e2 (tot_put q1 e1 (setSlot_size _ _ _) e2 e3) e3 (hS.put e2 e3 hB)
    · refine va_WputK hx hb (f := f) hown (va_Nw.use rfl (hK.2.2.1 _ hl)) hi2 hst (by rw [q2]; exact h6) q1 q3 (by rw [hsl]; exact k2_hasslot (q4 k hk)) rfl rfl hdg fun H' e1 e2 e3 => ?_
      rw [hsl] at e1 ⊢
      exact kk H' _ ⟨_, e1, q2, q3, t_set q4 hap hk v⟩ e2 (tot_put q1 e1 (setSlot_size _ _ _) e2 e3) e3 (hS.put e2 e3 hB)
  · unfold u_lay at hlay
    rw [if_pos hfin] at hlay
    have hcf : (xm X).cls = cf := by
      obtain ⟨_, _, c', _, _, _, -, -, hf', -, -, -, hown2, -⟩ := Cond.laysFinal_spec hlay
      have e1 : c' = cf := by have := hi.symm.trans hf'; simp at this; exact this.1.symm
      rw [hc.2.2.2.2.2 k, hCo] at hown2
      rw [← e1]; exact Option.some.inj (hown.symm.trans hown2)
    have h6 := u_fits hfc hkC hkind (Or.inr hlay) hi (hc.2.2.2.1 k hk) hn hfit
    refine W.putFinK hx hb hown (hts _ (List.mem_cons_of_mem _ hl2)) hi2 hst hcf hin2 (by rw [q2]; exact h6) q1 q3 (by rw [hsl]; exact k2_hasslot (q4 k hk)) rfl rfl hdg fun H' e1 e2 e3 => ?_
    rw [hsl] at e1 ⊢
    exact kk H' _ ⟨_, e1, q2, q3, t_set q4 hap hk v⟩ e2 (tot_put q1 e1 (setSlot_size _ _ _) e2 e3) e3 (hS.put e2 e3 hB)
/-- a row is made and put into a field of its own -/
theorem ww_nwP (g : Gd X y cc nL ret fr lo own) {r0 k index : Nat} {C : String} {T : u_T} {ty : Nat → FieldType} (hc : ClF r0 C T ty) (hp0 : prs s r0 i) (hk : k < nfF r0) (hfl : Fl own index C (T k).2.1 (T k).2.2.1) (hfin : (T k).2.2.2 = false ∨ ((T k).2.2.2 = true ∧ (xh X).name = "<init>" ∧ C = own ∧ Cond.fieldLink own index C (T k).2.1 (T k).2.2.1 ∈ wA)) (hty : ∃ z, ty k = .array z) {at0 : ArrayType} (hat : newarray.typeOf at0 = atF t) (hkd : rkF t = 1 ∨ rkF t = 2 ∨ rkF t = 4) (ht : t ≠ 148) (hi : i.toNatClampNeg < cnF t) (hl : lnF t = 0 ∨ lnF t = n.toNatClampNeg)
    (hf : tcG (128 * r0 + k) = 5 ∧ tgG (128 * r0 + k) = t ∧ r0 ≠ t) (hu : ∀ k', k' < nfF r0 → k' ≠ k → tgG (128 * r0 + k') ≠ t) (hR : ∀ r x, prs s r x → ¬ (r = r0 ∧ x = i) → ¬ Rfr s r x t i) (hL : t ∈ L ∨ ¬ gI s (128 * t + 127) i = 1 ∧ dyF t = true) (hw : Cond.arrayClass (newarray.typeOf at0) ∈ wA) (hm : Rmq (xP X) q m) (hdg : decode cc pc = .ok (.newarray at0, 2)) (hdg2 : decode cc (pc + 2) = .ok (.putfield index, 3)) (hn : 0 ≤ n ∧ n ≤ 60000000)
    {kt : Nat × Nat → M α} {kt2 : Nat × Nat → Unit → M α} (h : oB (oNw m n.toNatClampNeg) kt s = some o) (hkt : ∀ m', kt m' = oB (oS fun s => nwR s t i n.toNatClampNeg) (kt2 m')) (kk : ∀ (q' : PL) (m' : Nat × Nat) (s' : S1), s' = nwR s t i n.toNatClampNeg → Exq (xP X) L q q' → Rmq (xP X) q' m' → prs s' t i → kt2 m' () s' = some o → WW X q' s' (pc + 5) ls rest) : WW X q s pc ls (.int n :: .ref (q.1 r0 i) :: rest) := by
  intro H locs hW hS
  have g' := g
  obtain ⟨⟨hx, hb⟩, hml, hown, hts, hK, ⟨hR1, hR2, hR3, hR4⟩, -⟩ := g'
  obtain ⟨hr, h⟩ := oNw_in h
  rw [hkt] at h
  have h : kt2 _ () (nwR s t i n.toNatClampNeg) = some o := h
  obtain ⟨hm1, hm2⟩ := hm.tk (t := t) (i := i) hr
  have e1 := hW.1
  have e2 := hW.2.1
  have hN : n.toNatClampNeg ≤ 60000000 := by
    have a1 := Int32.le_iff_toInt_le.mp hn.2
    have e3 : n.toNatClampNeg = n.toInt.toNat := rfl
    have e4 : (60000000 : Int32).toInt = 60000000 := rfl
    omega
  obtain ⟨z1, z2, z3⟩ := atN hat hkd
  refine w_grow fun g1 g2 => ?_
  refine w_tight (k := H.size - (xs X).heap.size) (n := tot H - tot (xs X).heap) (by omega) (by omega) ?_
  refine va_newaK hx hb (hts _ (List.mem_cons_of_mem _ hw)) rfl hdg rfl (Int32.not_lt.mpr hn.1) rfl (Nat.le_trans (Nat.mul_le_mul hN z2) (by decide)) (by rw [hR3]; unfold cC; omega) (by rw [hR4]; unfold cS; omega) rfl fun H1 cA a1 a2 a3 hAr hNm => ?_
  have hRA := (hK.2.2.2.2 t (by omega) (by omega)).2
  have hcA : cA = (xP X).2.2.1 t := Option.some.inj (hNm.symm.trans (z3 hRA))
  subst hcA
  rw [z1] at a1
  obtain ⟨d1, d2, d3⟩ := hW.2.2.1 r0 i hp0
  have d4 := hW.fresh r0 i hp0
  unfold cellAt at d1
  rw [if_pos hc.1] at d1
  have d1' := d1.kept (a3 _ (by rw [e1]; exact d4))
  obtain ⟨tz, htz⟩ := hty
  have hS1 : va_S (fun a => (xP X).1 ≤ a) (xs X).heap H1 locs := ⟨by omega, fun a b1 b2 => (a3 a (Nat.lt_of_lt_of_le b1 hS.1)).trans (hS.2.1 a b1 b2), hS.2.2⟩
  refine rw_put g (ls := ls) (rest := rest) (v := .ref H.size) hc d1' hk hfl hfin (by rw [htz]; rfl) (by rw [htz]; rfl) d2 hS1 hdg2 fun H2 locs2 b1 b2 b3 b4 hS2 => ?_
  have hne0 : ¬ (r0 = t ∧ i = i) := fun z => hf.2.2 z.1
  have b5 : H2[H.size]? = H1[H.size]? := b4 _ (by rw [e1]; exact Nat.ne_of_gt d4)
  obtain ⟨c1, c2⟩ := cell_nwR (P := xP X) (q := q) (s := s) (i := i) (H1 := H2) (by rcases hkd with h | h | h <;> simp [h]) (by omega) hl (by rw [← e1, b5]; exact a1)
  have hpi : 0 ≤ i := hp0.2.1
  have hp := prs_nwR (s := s) (N := n.toNatClampNeg) ⟨hpi, hi⟩
  have hsm : Sm t i q (qU q t i n.toNatClampNeg) s (nwR s t i n.toNatClampNeg) := sm_nwR
  have hW1 : Wd (xP X) (qU q t i n.toNatClampNeg) (nwR s t i n.toNatClampNeg) H2 := by
    refine hW.mk hsm (by show H2.size = q.2.1 + 1; omega) (by show tot H2 = q.2.2 + _; rw [b3, tot_grow a2 a1 a3, arrV_size, e2]) hm2 (fun r x => r = r0 ∧ x = i) (fun r x hp hne ho => ⟨?_, hR r x hp ho⟩) (fun r x hpx hne ho => ?_) ⟨c1, by rw [qU_at]; exact hW.base, c2, fun r x hp _ => by rw [qU_at]; exact Nat.ne_of_lt (hW.fresh r x hp)⟩ hp (kd_nw (sm_nwR (q := q) (M := 0)) ht hp hW.2.2.2.2.2.2.2.2) byR
    · rw [b4 _ fun z => ho (hW.2.2.2.1 _ _ _ _ hp hp0 z)]
      exact a3 _ (by rw [e1]; exact hW.fresh r x hp)
    · obtain ⟨rfl, rfl⟩ := ho
      unfold cellAt
      rw [if_pos hc.1, qU_ne hne0]
      refine b1.to fun k' hk' => ?_
      by_cases e : k' = k
      · subst e
        have e5 : fv (qU q t x n.toNatClampNeg) (nwR s t x n.toNatClampNeg) r x k' = .ref H.size := by
          unfold fv
          rw [hf.1, hf.2.1]
          show (if gI (nwR s t x n.toNatClampNeg) (128 * t + 127) x = 1 then Value.ref ((qU q t x n.toNatClampNeg).1 t x) else .null) = _
          have e6 : gI (nwR s t x n.toNatClampNeg) (128 * t + 127) x = 1 := by rw [gI_nwR, if_pos ⟨rfl, rfl⟩]
          rw [if_pos e6, qU_at, e1]
        rw [e5]
        simp [updV]
      · simp only [updV, if_neg e]
        exact (hsm.fk hne0 (by have := nfF_le r; omega) (hu k' hk' e)).symm
  have hE : Exq (xP X) L q (qU q t i n.toNatClampNeg) := by
    refine exU (hL.imp id fun z hlt => ?_)
    exact z.1 ((hW.2.2.2.2.2.2.2.1 t i hpi hi hlt).1 z.2)
  have k2 := kk _ _ _ rfl hE hm1 hp h H2 locs2 hW1 hS2
  refine W.widen (k := cC (xP X) (xs X).heap.size) (n := cS (xP X) (tot (xs X).heap)) (by unfold cC; omega) (by unfold cS; omega) ?_
  exact k2
end MD
