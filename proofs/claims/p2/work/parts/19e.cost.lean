/-- a coroutine that is ready takes its place -/
def coS (s : S1) (c : Int32) : S1 := (fun f x => if f = 19071 ∧ x = c then 1 else if f / 128 = 148 ∧ x = c then gI s (128 * 153 + f % 128) c else if f = 19711 ∧ x = c then 0 else s.1 f x, fun f x => if f / 128 = 148 ∧ x = c then gL s (128 * 153 + f % 128) c else s.2.1 f x, s.2.2)
theorem gI_coS (s : S1) (f : Nat) (c x : Int32) : gI (coS s c) f x = if f = 19071 ∧ x = c then 1 else if f / 128 = 148 ∧ x = c then gI s (128 * 153 + f % 128) c else if f = 19711 ∧ x = c then 0 else gI s f x := rfl
theorem gL_coS (s : S1) (f : Nat) (c x : Int32) : gL (coS s c) f x = if f / 128 = 148 ∧ x = c then gL s (128 * 153 + f % 128) c else gL s f x := rfl
theorem gA_coS (s : S1) (r : Nat) (c x y : Int32) : gA (coS s c) r x y = gA s r x y := rfl
theorem gB_coS (s : S1) (r : Nat) (c x y : Int32) : gB (coS s c) r x y = gB s r x y := rfl
/-- it is whole, and nobody has named its number yet -/
def coR (s : S1) (c : Int32) : Prop := (0 ≤ c ∧ c < 32) ∧ prs s 149 c ∧ prs s 150 c ∧ prs s 151 c ∧ (∀ j : Int32, 0 ≤ j ∧ j < 200 → prs s 152 (c * 200 + j)) ∧ gI s 19071 c ≠ 1 ∧ gI s 16395 0 ≠ c ∧ gI s 16516 0 ≠ c
theorem rfCo {s : S1} {c : Int32} (hc : gI s 16395 0 ≠ c ∧ gI s 16516 0 ≠ c) (r : Nat) (i : Int32) (hp : prs s r i) (hne : ¬ (r = 116 ∧ i = 0)) : ¬ Rfr s r i 148 c := by
  have z0 : ∀ r, cnF r = 1 → prs s r i → i = 0 := fun r h1 hp => by
    have h3 := hp.2.2
    rw [h1] at h3
    have h2 := Int32.le_iff_toInt_le.mp hp.2.1
    have e : i.toNatClampNeg = i.toInt.toNat := rfl
    have e0 : (0 : Int32).toInt = 0 := rfl
    exact Int32.toInt_inj.mp (by omega)
  intro h
  rcases h.of (big_np hp) with ⟨k2, hk2, h4, h5⟩ | ⟨h4, -⟩
  · have h4 : 128 * r + k2 ∈ [16395, 16516] := h4
    have hb := nfF_le r
    rcases List.mem_cons.mp h4 with h6 | h6
    · have hr : r = 128 := by omega
      subst hr
      have hk : k2 = 11 := by omega
      subst hk
      rcases h5 with ⟨h5 | h5, -⟩ | ⟨-, h5⟩
      · exact absurd h5 (by decide)
      · exact absurd h5 (by decide)
      · rw [z0 128 rfl hp] at h5
        exact hc.1 h5
    · have h6 := List.mem_singleton.mp h6
      have hr : r = 129 := by omega
      subst hr
      have hk : k2 = 4 := by omega
      subst hk
      rcases h5 with ⟨h5 | h5, -⟩ | ⟨-, h5⟩
      · exact absurd h5 (by decide)
      · exact absurd h5 (by decide)
      · rw [z0 129 rfl hp] at h5
        exact hc.2 h5
  · have h4 : r ∈ [116] := h4
    have hr := List.mem_singleton.mp h4
    subst hr
    exact hne ⟨rfl, z0 116 rfl hp⟩
theorem sub0 {s : S1} {r : Nat} {i : Int32} (h1 : cnF r = 1) (hp : prs s r i) : i = 0 := by
  have h3 := hp.2.2
  rw [h1] at h3
  have h2 := Int32.le_iff_toInt_le.mp hp.2.1
  have e : i.toNatClampNeg = i.toInt.toNat := rfl
  have e0 : (0 : Int32).toInt = 0 := rfl
  exact Int32.toInt_inj.mp (by omega)
theorem rfTg {s : S1} {j : Int32} (r : Nat) (i : Int32) (hp : prs s r i) (hne : ¬ (r = 112 ∧ i = 0)) : ¬ Rfr s r i 145 j := by
  intro h
  rcases h.of (big_np hp) with ⟨k2, hk2, h4, h5⟩ | ⟨h4, -⟩
  · cases (show 128 * r + k2 ∈ [] from h4)
  · have h4 : r ∈ [112] := h4
    have hr := List.mem_singleton.mp h4
    subst hr
    exact hne ⟨rfl, sub0 rfl hp⟩
theorem rfPr {s : S1} {j : Int32} (hc : gI s 16518 0 ≠ j ∧ ∀ x, prs s 152 x → gI s 19458 x ≠ j) (r : Nat) (i : Int32) (hp : prs s r i) (hne : ¬ (r = 102 ∧ i = 0)) : ¬ Rfr s r i 144 j := by
  intro h
  rcases h.of (big_np hp) with ⟨k2, hk2, h4, h5⟩ | ⟨h4, -⟩
  · have h4 : 128 * r + k2 ∈ [16518, 19458] := h4
    have hb := nfF_le r
    rcases List.mem_cons.mp h4 with h6 | h6
    · have hr : r = 129 := by omega
      subst hr
      have hk : k2 = 6 := by omega
      subst hk
      rcases h5 with ⟨h5 | h5, -⟩ | ⟨-, h5⟩
      · exact absurd h5 (by decide)
      · exact absurd h5 (by decide)
      · rw [sub0 (r := 129) rfl hp] at h5
        exact hc.1 h5
    · have h6 := List.mem_singleton.mp h6
      have hr : r = 152 := by omega
      subst hr
      have hk : k2 = 2 := by omega
      subst hk
      rcases h5 with ⟨h5 | h5, -⟩ | ⟨-, h5⟩
      · exact absurd h5 (by decide)
      · exact absurd h5 (by decide)
      · exact hc.2 i hp h5
  · have h4 : r ∈ [102] := h4
    have hr := List.mem_singleton.mp h4
    subst hr
    exact hne ⟨rfl, sub0 rfl hp⟩
theorem in32 {i : Int32} {n : Int32} {N : Nat} (hN : n.toNatClampNeg = N) (h : 0 ≤ i ∧ i < n) : 0 ≤ i ∧ i.toNatClampNeg < N := by
  refine ⟨h.1, ?_⟩
  have := j_in h hN
  omega
theorem inN {i : Int32} {n : Int32} {N : Nat} (hN : n.toInt = N) (h : 0 ≤ i ∧ i.toNatClampNeg < N) : i < n := by
  have h2 := Int32.le_iff_toInt_le.mp h.1
  have e : i.toNatClampNeg = i.toInt.toNat := rfl
  have e0 : (0 : Int32).toInt = 0 := rfl
  exact Int32.lt_iff_toInt_lt.mpr (by omega)
theorem fm_int {a x : Int32} (ha : 0 ≤ a ∧ a < 32) (hx : 0 ≤ x ∧ x < 200) : (a * 200 + x).toInt = a.toInt * 200 + x.toInt ∧ (0 ≤ a.toInt ∧ a.toInt < 32) ∧ 0 ≤ x.toInt ∧ x.toInt < 200 := by
  have a1 := Int32.le_iff_toInt_le.mp ha.1
  have a2 := Int32.lt_iff_toInt_lt.mp ha.2
  have a3 := Int32.le_iff_toInt_le.mp hx.1
  have a4 := Int32.lt_iff_toInt_lt.mp hx.2
  have e0 : (0 : Int32).toInt = 0 := rfl
  have e1 : (32 : Int32).toInt = 32 := rfl
  have e2 : (200 : Int32).toInt = 200 := rfl
  have m1 : (a * 200).toInt = a.toInt * 200 := by
    rw [Int32.toInt_mul, e2]
    exact Int.bmod_eq_of_le (by omega) (by omega)
  refine ⟨?_, by omega, by omega⟩
  rw [Int32.toInt_add, m1]
  exact Int.bmod_eq_of_le (by omega) (by omega)
/-- the frames of two coroutines are apart -/
theorem fm_inj {a b x y : Int32} (ha : 0 ≤ a ∧ a < 32) (hb : 0 ≤ b ∧ b < 32) (hx : 0 ≤ x ∧ x < 200) (hy : 0 ≤ y ∧ y < 200) (h : a * 200 + x = b * 200 + y) : a = b ∧ x = y := by
  obtain ⟨e1, b1, b2⟩ := fm_int ha hx
  obtain ⟨e2, b3, b4⟩ := fm_int hb hy
  rw [h] at e1
  exact ⟨Int32.toInt_inj.mp (by omega), Int32.toInt_inj.mp (by omega)⟩
theorem rfFm {s : S1} {c j : Int32} (hc : 0 ≤ c ∧ c < 32) (hj : 0 ≤ j ∧ j < 200) (hn : gI s 16517 0 ≠ c * 200 + j) (r : Nat) (i : Int32) (hp : prs s r i) (hne : ¬ (r = 151 ∧ i = c)) : ¬ Rfr s r i 152 (c * 200 + j) := by
  intro h
  rcases h.of (big_np hp) with ⟨k2, hk2, h4, h5⟩ | ⟨h4, h5⟩
  · have h4 : 128 * r + k2 ∈ [16517] := h4
    have hb := nfF_le r
    have h6 := List.mem_singleton.mp h4
    have hr : r = 129 := by omega
    subst hr
    have hk : k2 = 5 := by omega
    subst hk
    rcases h5 with ⟨h5 | h5, -⟩ | ⟨-, h5⟩
    · exact absurd h5 (by decide)
    · exact absurd h5 (by decide)
    · rw [sub0 (r := 129) rfl hp] at h5
      exact hn h5
  · have h4 : r ∈ [151] := h4
    have hr := List.mem_singleton.mp h4
    subst hr
    obtain ⟨x, hx, hx2⟩ := h5 rfl
    have hx : x < 200 := hx
    have hi : i < 32 := inN (N := 32) rfl ⟨hp.2.1, hp.2.2⟩
    have hx3 : (0 : Int32) ≤ Int32.ofNat x ∧ Int32.ofNat x < 200 := by
      have e1 := nI_toInt (n := x) (by omega)
      have e0 : (0 : Int32).toInt = 0 := rfl
      have e2 : (200 : Int32).toInt = 200 := rfl
      have e1 : (Int32.ofNat x).toInt = x := e1
      exact ⟨Int32.le_iff_toInt_le.mpr (by omega), Int32.lt_iff_toInt_lt.mpr (by omega)⟩
    exact hne ⟨rfl, (fm_inj ⟨hp.2.1, hi⟩ hc hx3 hj hx2).1⟩
section CS
variable {X : Cx} {q : PL} {s : S1} {y : MethodName} {cc : ByteArray} {nL : Nat} {ret : Option FieldType} {fr lo : Nat} {own : String} {pc : Nat} {ls : Array Slot} {rest : List Value} {α : Type} {o : α × S1} {L : List Nat} {m : Nat × Nat}
theorem ww_coSt (g : Gd X y cc nL ret fr lo own) {c : Int32} (hcl : ClF 148 R_Co TCo tyCo) (hpN : prs s 153 c) (hL : 153 ∈ L) (hm : Rmq (xP X) q m) (hdg : decode cc pc = .ok (.aastore, 1))
    {kt kt2 : Unit → M α} (h : oB (oKs fun s => coR s c) kt s = some o) (hkt : kt () = oB (oS fun s => coS s c) kt2) (kk : ∀ (q' : PL) (s' : S1), s' = coS s c → Exq (xP X) L q q' → Rmq (xP X) q' m → prs s' 148 c → kt2 () s' = some o → WW X q' s' (pc + 1) ls rest) : WW X q s pc ls (.ref (q.1 153 c) :: .int c :: .ref (q.1 116 0) :: rest) := by
  intro H locs hW hS
  have g' := g
  obtain ⟨⟨hx, hb⟩, hml, hown, hts, hK, -, -⟩ := g'
  obtain ⟨⟨hc, p1, p2, p3, p4, nf, nr⟩, h⟩ := oKs_in h
  rw [hkt] at h
  have h : kt2 () (coS s c) = some o := h
  have hp0 : prs s 116 0 := ⟨fun e => absurd e (by decide), by decide, by decide⟩
  obtain ⟨c1, c2, c3⟩ := hW.2.2.1 153 c hpN
  unfold cellAt at c1
  rw [if_pos (by decide)] at c1
  obtain ⟨cv, q1, q2, q3, q4⟩ := c1
  obtain ⟨d1, d2, d3⟩ := hW.2.2.1 116 0 hp0
  unfold cellAt at d1
  rw [if_neg (by decide), avP_ne (by decide)] at d1
  have hne : q.1 116 0 ≠ q.1 153 c := fun z => absurd (hW.2.2.2.1 _ _ _ _ hp0 hpN z).1 (by decide)
  have hRA := (hK.2.2.2.2 116 (by decide) (by decide)).2
  obtain ⟨kA, comp, k1, k2, k3, -⟩ := (show va_RA (xs X) _ (.object "LuaMachine$Coroutine") from hRA)
  have hKn := hK.1.1 13 _ (show vwCl[13]? = some (R_Co, TCo, 12) from rfl)
  have hcls := hKn.2
  have hcomp : comp = (xP X).2.1.1 13 := Option.some.inj (k3.symm.trans hcls.1)
  subst hcomp
  obtain ⟨kC, hkC, -⟩ := hcls.2
  have hj := in32 (N := 32) rfl hc
  refine W.aast (v := q.1 153 c) (cv := cv) hx hb d1 (fun q h => by cases h) (fun h => by cases h) k1 k2 rfl hkC ⟨Int32.not_lt.mpr hj.1, by rw [arrV_size]; exact hj.2⟩ q1 (fun q h => by rw [q3] at h; cases h) (by rw [q2]; exact hkC) (by rw [q2]; exact va_assign hcls) rfl rfl hdg fun H2 b1 b2 b4 => ?_
  have hS2 := hS.put (k := c.toNatClampNeg) b2 b4 d2
  have hD := hW.dropN (t := 153) (i := c) rfl ⟨rfl, rfl⟩ (by decide)
  generalize hq1 : qD (xP X) q 153 c = qq at hD
  generalize hs1 : sI s (128 * 153 + 127) c 0 = s1 at hD
  have hsD : Sm 153 c q qq s s1 := by rw [← hq1, ← hs1]; exact sm_drop
  have hsm : Sm 148 c qq (qM qq 148 c (q.1 153 c)) s1 (coS s c) := by
    refine ⟨fun r x h => qM_ne h, fun r k x hk h => ⟨?_, ?_⟩, fun r x y h => ⟨by rw [← hs1]; rfl, by rw [← hs1]; rfl⟩⟩
    · rw [gI_coS, if_neg fun z => h ⟨by have := z.1; omega, z.2⟩, if_neg fun z => h ⟨by have := z.1; omega, z.2⟩, ← hs1, gI_sI]
    · rw [gL_coS, if_neg fun z => h ⟨by have := z.1; omega, z.2⟩, ← hs1]
      rfl
  have npN : ¬ prs s1 153 c := fun z => by
    have := z.1 rfl
    rw [← hs1, gI_sI, if_pos ⟨rfl, rfl⟩] at this
    exact absurd this (by decide)
  have hup : ∀ r x, prs s1 r x → ¬ (r = 153 ∧ x = c) ∧ prs s r x := fun r x hx => by
    have n1 : ¬ (r = 153 ∧ x = c) := fun z => npN (z.1 ▸ z.2 ▸ hx)
    exact ⟨n1, (hsD.p n1).mp hx⟩
  have hp : prs (coS s c) 148 c := ⟨fun _ => by rw [gI_coS, if_pos ⟨rfl, rfl⟩], hj⟩
  have hto : ∀ r x, r ≠ 153 → r ≠ 148 → prs s r x → prs (coS s c) r x := fun r x a b hx => (hsm.p fun z => b z.1).mpr ((hsD.p fun z => a z.1).mpr hx)
  have hrf : ∀ r x, prs s1 r x → ¬ (r = 116 ∧ x = 0) → ¬ Rfr s1 r x 148 c := fun r x hp hne => rfCo (by rw [← hs1]; exact nr) r x hp hne
  have hW1 : Wd (xP X) (qM qq 148 c (q.1 153 c)) (coS s c) H2 := by
    have hq12 : qq.2 = q.2 := by rw [← hq1]; rfl
    refine hD.mk hsm (by show H2.size = qq.2.1; rw [hq12, b2]; exact hW.1) (by show tot H2 = qq.2.2; rw [hq12, tot_put d1 b1 (setSlot_size _ _ _) b2 b4]; exact hW.2.1) ⟨by show qq.2.1 ≤ _; rw [hq12]; exact hW.2.2.2.2.1, by show qq.2.2 ≤ _; rw [hq12]; exact hW.2.2.2.2.2.1⟩ (fun r x => r = 116 ∧ x = 0) (fun r x hp hne ho => ⟨?_, hrf r x hp ho⟩) (fun r x hpx hne ho => ?_) ⟨?_, by rw [qM_at]; exact c2, ?_, fun r x hp _ => ?_⟩ hp ?_ (fun z => absurd z (by decide))
    · obtain ⟨n1, hp⟩ := hup r x hp
      rw [hsD.1 _ _ n1]
      exact b4 _ fun z => ho (hW.2.2.2.1 _ _ _ _ hp hp0 z)
    · obtain ⟨rfl, rfl⟩ := ho
      unfold cellAt
      rw [if_neg (by decide), avP_ne (by decide), hsm.1 _ _ hne, hsD.1 116 0 (fun z => absurd z.1 (by decide)), b1, arrV_store]
      refine congrArg some (arrV_congr fun z hz => ?_)
      by_cases ez : z = c.toNatClampNeg
      · subst ez
        simp only [updV, if_pos]
        show _ = if gI (coS s c) (128 * 148 + 127) (Int32.ofNat c.toNatClampNeg) = 1 then Value.ref ((qM qq 148 c (q.1 153 c)).1 148 (Int32.ofNat c.toNatClampNeg)) else .null
        rw [i_of_clamp hj.1, if_pos (hp.1 rfl), qM_at]
      · simp only [updV, if_neg ez]
        have hz : z < 32 := hz
        have hne2 : Int32.ofNat z ≠ c := i_ne (by omega) ez
        have n2 : ¬ (148 = 148 ∧ Int32.ofNat z = c) := fun w => hne2 w.2
        show (if gI s (128 * 148 + 127) (Int32.ofNat z) = 1 then Value.ref (q.1 148 (Int32.ofNat z)) else .null) = if gI (coS s c) (128 * 148 + 127) (Int32.ofNat z) = 1 then Value.ref ((qM qq 148 c (q.1 153 c)).1 148 (Int32.ofNat z)) else .null
        rw [hsm.1 _ _ n2, (hsm.2.1 _ 127 _ (by decide) n2).1, hsD.1 148 _ (fun z => absurd z.1 (by decide)), (hsD.2.1 148 127 _ (by decide) (fun z => absurd z.1 (by decide))).1]
    · unfold cellAt
      rw [if_pos (by decide), qM_at]
      refine ⟨cv, by rw [b4 _ (Ne.symm hne)]; exact q1, q2, q3, fun k hk => ?_⟩
      have hk : k < 12 := hk
      have e5 : fv (qM qq 148 c (q.1 153 c)) (coS s c) 148 c k = fv q s 153 c k := by
        have eI : ∀ k, k < 126 → gI (coS s c) (128 * 148 + k) c = gI s (128 * 153 + k) c := fun k hk => by
          rw [gI_coS, if_neg (by omega), if_pos ⟨by omega, rfl⟩, show (128 * 148 + k) % 128 = k by omega]
        have eL : ∀ k, k < 126 → gL (coS s c) (128 * 148 + k) c = gL s (128 * 153 + k) c := fun k hk => by
          rw [gL_coS, if_pos ⟨by omega, rfl⟩, show (128 * 148 + k) % 128 = k by omega]
        have eq1 : ∀ r, r ≠ 148 → r ≠ 153 → (qM qq 148 c (q.1 153 c)).1 r c = q.1 r c := fun r a b => by
          rw [hsm.1 _ _ fun z => a z.1, hsD.1 _ _ fun z => b z.1]
        have : k = 0 ∨ k = 1 ∨ k = 2 ∨ (3 ≤ k ∧ k ≠ 9) ∨ k = 9 := by omega
        rcases this with rfl | rfl | rfl | ⟨h3, h9⟩ | rfl
        · show Value.ref ((qM qq 148 c (q.1 153 c)).1 149 c) = if gI s (128 * 149 + 127) c = 1 then Value.ref (q.1 149 c) else .null
          rw [eq1 149 (by decide) (by decide), if_pos (p1.1 rfl)]
        · show Value.ref ((qM qq 148 c (q.1 153 c)).1 150 c) = if gI s (128 * 150 + 127) c = 1 then Value.ref (q.1 150 c) else .null
          rw [eq1 150 (by decide) (by decide), if_pos (p2.1 rfl)]
        · show Value.ref ((qM qq 148 c (q.1 153 c)).1 151 c) = if gI s (128 * 151 + 127) c = 1 then Value.ref (q.1 151 c) else .null
          rw [eq1 151 (by decide) (by decide), if_pos (p3.1 rfl)]
        · have t1 : tcG (128 * 148 + k) = 0 := (by decide : ∀ k, k < 12 → 3 ≤ k → k ≠ 9 → tcG (128 * 148 + k) = 0) k hk h3 h9
          have t2 : tcG (128 * 153 + k) = 0 := (by decide : ∀ k, k < 12 → 3 ≤ k → k ≠ 9 → tcG (128 * 153 + k) = 0) k hk h3 h9
          unfold fv
          rw [t1, t2]
          show Value.int (gI (coS s c) _ c) = .int (gI s _ c)
          rw [eI k (by omega)]
        · show Value.long (gL (coS s c) (128 * 148 + 9) c) = .long (gL s (128 * 153 + 9) c)
          rw [eL 9 (by decide)]
      rw [e5]
      exact q4 k hk
    · unfold lnS
      rw [if_pos (by decide), gI_coS, if_neg (by omega), if_pos ⟨by omega, rfl⟩]
      show (gI s (128 * 153 + 126) c).toNatClampNeg < 2147483648
      unfold lnS at c3
      exact c3
    · obtain ⟨n1, hp⟩ := hup r x hp
      rw [qM_at, hsD.1 _ _ n1]
      exact fun z => n1 (hW.2.2.2.1 _ _ _ _ hp hpN z)
    · intro i hi
      by_cases e : i = c
      · subst e
        exact ⟨hto _ _ (by decide) (by decide) p1, hto _ _ (by decide) (by decide) p2, hto _ _ (by decide) (by decide) p3, fun j hj => hto _ _ (by decide) (by decide) (p4 j hj)⟩
      · have hi2 := (hsD.p fun z => absurd z.1 (by decide)).mp ((hsm.p fun z => e z.2).mp hi)
        obtain ⟨a, b, d, f⟩ := hW.2.2.2.2.2.2.2.2 i hi2
        exact ⟨hto _ _ (by decide) (by decide) a, hto _ _ (by decide) (by decide) b, hto _ _ (by decide) (by decide) d, fun j hj => hto _ _ (by decide) (by decide) (f j hj)⟩
  have hE : Exq (xP X) L q (qM qq 148 c (q.1 153 c)) := fun r x hr hlt => by
    by_cases z : r = 148 ∧ x = c
    · obtain ⟨rfl, rfl⟩ := z
      exact absurd ((hW.2.2.2.2.2.2.2.1 148 x hj.1 hj.2 hlt).1 rfl) nf
    · rw [hsm.1 r x z, hsD.1 r x fun z => hr (by rw [z.1]; exact hL)]
  have hm' : Rmq (xP X) (qM qq 148 c (q.1 153 c)) m := by
    rw [← hq1]
    exact hm
  exact kk _ _ rfl hE hm' hp h H2 _ hW1 hS2
end CS
