/-! The class's roles: their classes, how they begin; its rows of values. -/
def ROK (r : Nat) (i : Int32) : Prop := (r = 132 ∨ r = 135 ∨ r = 138 ∨ r = 141) ∧ i = 0
theorem rok_f {r : Nat} {i : Int32} (h : ROK r i) : (rkF r = 0 ∧ ciF r = 7 ∧ nfF r = 3) ∧ (tcG (128 * r + 0) = 2 ∧ tgG (128 * r + 0) = r + 1) ∧ (tcG (128 * r + 1) = 2 ∧ tgG (128 * r + 1) = r + 2) ∧ tcG (128 * r + 2) = 0 ∧ rkF (r + 1) = 2 ∧ rkF (r + 2) = 4 := by
  rcases h with ⟨h, -⟩
  rcases h with rfl | rfl | rfl | rfl <;> decide
theorem rok_p {s : S1} {r : Nat} {i : Int32} (h : ROK r i) : prs s r i ∧ prs s (r + 1) i ∧ prs s (r + 2) i := by
  rcases h with ⟨h, rfl⟩
  rcases h with rfl | rfl | rfl | rfl <;> exact ⟨pz rfl (by decide), pz rfl (by decide), pz rfl (by decide)⟩
theorem rok_n {s : S1} {r : Nat} {i : Int32} (h : ROK r i) : (512 : Int32).toNatClampNeg = lnS s (r + 1) i ∧ (512 : Int32).toNatClampNeg = lnS s (r + 2) i := by
  rcases h with ⟨h, -⟩
  rcases h with rfl | rfl | rfl | rfl <;> exact ⟨rfl, rfl⟩
theorem rok_154 {r : Nat} {i : Int32} (h : ROK r i) : r + 1 ≠ 154 ∧ r + 2 ≠ 154 := by
  rcases h with ⟨h, -⟩
  rcases h with rfl | rfl | rfl | rfl <;> decide
theorem cl_LM : ClF 100 R_LM TLM tyLM := ⟨rfl, rfl, ic_LM, tyLM_ok, nmLM, fun k => by unfold TLM; split <;> rfl⟩
theorem cl_Ch : ClF 101 R_Ch TCh tyCh := ⟨rfl, rfl, ic_Ch, tyCh_ok, nmCh, fun k => by unfold TCh; split <;> rfl⟩
theorem cl_He : ClF 111 R_He THe tyHe := ⟨rfl, rfl, ic_He, tyHe_ok, nmHe, fun k => by unfold THe; split <;> rfl⟩
theorem cl_Ta : ClF 120 R_Ta TTa tyTa := ⟨rfl, rfl, ic_Ta, tyTa_ok, nmTa, fun k => by unfold TTa; split <;> rfl⟩
theorem cl_Ma : ClF 128 R_Ma TMa tyMa := ⟨rfl, rfl, ic_Ma, tyMa_ok, nmMa, fun k => by unfold TMa; split <;> rfl⟩
theorem cl_St : ClF 129 R_St TSt tySt := ⟨rfl, rfl, ic_St, tySt_ok, nmSt, fun k => by unfold TSt; split <;> rfl⟩
theorem cl_Bu : ClF 130 R_Bu TBu tyBu := ⟨rfl, rfl, ic_Bu, tyBu_ok, nmBu, fun k => by unfold TBu; split <;> rfl⟩
theorem cl_Pr : ClF 144 R_Pr TPr tyPr := ⟨rfl, rfl, ic_Pr, tyPr_ok, nmPr, fun k => by unfold TPr; split <;> rfl⟩
theorem cl_Tg : ClF 145 R_Tg TTg tyTg := ⟨rfl, rfl, ic_Tg, tyTg_ok, nmTg, fun k => by unfold TTg; split <;> rfl⟩
theorem cl_Co : ClF 148 R_Co TCo tyCo := ⟨rfl, rfl, ic_Co, tyCo_ok, nmCo, fun k => by unfold TCo; split <;> rfl⟩
theorem cl_Fm : ClF 152 R_Fm TFm tyFm := ⟨rfl, rfl, ic_Fm, tyFm_ok, nmFm, fun k => by unfold TFm; split <;> rfl⟩
theorem cl_Nc : ClF 153 R_Co TCo tyCo := ⟨rfl, rfl, ic_Co, tyCo_ok, nmCo, fun k => by unfold TCo; split <;> rfl⟩
theorem cl_Ro {r : Nat} {i : Int32} (h : ROK r i) : ClF r R_Ro TRo tyRo := by
  obtain ⟨⟨h1, h2, h3⟩, -⟩ := rok_f h
  refine ⟨h1, by rw [h2, h3]; rfl, by rw [h3]; exact ic_Ro, by rw [h3]; exact tyRo_ok, by rw [h3]; exact nmRo, fun k => by unfold TRo; split <;> rfl⟩
theorem dv_Pr : dvOK 144 tyPr := by unfold dvOK; decide +kernel
theorem dv_Tg : dvOK 145 tyTg := by unfold dvOK; decide +kernel
theorem dv_Fm : dvOK 152 tyFm := by unfold dvOK; decide +kernel
theorem dv_Nc : dvOK 153 tyCo := by unfold dvOK; decide +kernel
theorem h5_Pr {s : S1} {j : Int32} : ∀ k, k < nfF 144 → tcG (128 * 144 + k) = 5 → gI s (128 * tgG (128 * 144 + k) + 127) j ≠ 1 := fun k hk h => absurd h ((by decide : ∀ k, k < nfF 144 → tcG (128 * 144 + k) ≠ 5) k hk)
theorem h5_Fm {s : S1} {j : Int32} : ∀ k, k < nfF 152 → tcG (128 * 152 + k) = 5 → gI s (128 * tgG (128 * 152 + k) + 127) j ≠ 1 := fun k hk h => absurd h ((by decide : ∀ k, k < nfF 152 → tcG (128 * 152 + k) ≠ 5) k hk)
theorem h5_Tg {s : S1} {j : Int32} (hg : gI s 18815 j ≠ 1 ∧ gI s 18943 j ≠ 1) : ∀ k, k < nfF 145 → tcG (128 * 145 + k) = 5 → gI s (128 * tgG (128 * 145 + k) + 127) j ≠ 1 := fun k hk h => by
  have : k = 9 ∨ k = 10 := (by decide : ∀ k, k < nfF 145 → tcG (128 * 145 + k) = 5 → k = 9 ∨ k = 10) k hk h
  rcases this with rfl | rfl
  · exact hg.1
  · exact hg.2
theorem h5_Nc {s : S1} {j : Int32} (hg : gI s 19199 j ≠ 1 ∧ gI s 19327 j ≠ 1 ∧ gI s 19455 j ≠ 1) : ∀ k, k < nfF 153 → tcG (128 * 153 + k) = 5 → gI s (128 * tgG (128 * 153 + k) + 127) j ≠ 1 := fun k hk h => by
  have : k = 0 ∨ k = 1 ∨ k = 2 := (by decide : ∀ k, k < nfF 153 → tcG (128 * 153 + k) = 5 → k = 0 ∨ k = 1 ∨ k = 2) k hk h
  rcases this with rfl | rfl | rfl
  · exact hg.1
  · exact hg.2.1
  · exact hg.2.2
/-- what must hold for a thing, a prototype, a frame to be made -/
def gTg (s : S1) (j : Int32) : Prop := ¬ gI s 18687 j = 1 ∧ gI s 18815 j ≠ 1 ∧ gI s 18943 j ≠ 1
def gPr (s : S1) (j : Int32) : Prop := ¬ gI s 18559 j = 1 ∧ gI s 16518 0 ≠ j ∧ ∀ x, prs s 152 x → gI s 19458 x ≠ j
def gFm (s : S1) (j : Int32) : Prop := ¬ gI s 19583 j = 1 ∧ gI s 16517 0 ≠ j
theorem fm_rng {c j : Int32} (hc : 0 ≤ c ∧ c < 32) (hj : 0 ≤ j ∧ j < 200) : 0 ≤ c * 200 + j ∧ (c * 200 + j).toNatClampNeg < cnF 152 := by
  obtain ⟨e, b1, b2⟩ := fm_int hc hj
  have e0 : (0 : Int32).toInt = 0 := rfl
  refine ⟨Int32.le_iff_toInt_le.mpr (by omega), ?_⟩
  show (c * 200 + j).toInt.toNat < 6400
  omega
theorem ct0_ofi {l : Launch} {y : MethodName} {bytes : ByteArray} {ix : Nat} (hy : plainName y.cls = true) (hd0 : decode bytes 0 = .ok (.aload_n 0, 1)) (hd1 : decode bytes 1 = .ok (.invokespecial ix, 3)) (hd4 : decode bytes 4 = .ok (.return_, 1)) (hw : Cond.methodLink y.cls ix objectInit ∈ wA) (hw1 : Cond.instanceMethod objectInit ∈ wA) (hw2 : Cond.code objectInit ⟨#[0xb1]⟩ 1 none ∈ wA) : Ct0 l y bytes := by
  intro H a free
  refine Met.ofW (cc := bytes) (maxL := 1) (ret := none) hy rfl ?_
  intro p e s m args below meth c s₁ B hml hv
  obtain ⟨rfl, hH⟩ := hv
  have hx := B.exec
  have hb := B.bytes
  have hr := B.returns
  have hts := atoms_spec (ws := Cond.code y bytes 1 none :: wA) B.pre
  have hown : s.vm.findClass y.cls = some m.cls := findClass_of_methodNamed B.named
  have hlocks := B.notSynchronized
  have hl := lv_entry ([.ref a]) (n := 1) (Nat.le_of_ble_eq_true rfl)
  rw [lg_entry_eq]
  generalize (lg_sl ([.ref a]) ++ List.replicate (1 - (lg_sl ([.ref a])).length) Slot.unset).toArray = ls at hl ⊢
  have hl : lv_has ls 1 [(0, .ref a)] := hl
  refine lv_aload_n hx hb hd0 rfl (lv_at hl 0 rfl) ?_
  refine W.objInit hx hb hown (hts _ (List.mem_cons_of_mem _ hw)) (hts _ (List.mem_cons_of_mem _ hw1)) (hts _ (List.mem_cons_of_mem _ hw2)) rfl (by rw [hml]; exact hl.1) rfl hd1 (Nat.le_of_ble_eq_true rfl) (Nat.le_of_ble_eq_true rfl) ?_
  exact W.vret hx hb hr (fun t ht hW => ⟨rfl, by rw [ht]; exact hH⟩) (fun a ha => by cases ha) hd4
/-- a constructor: the method's name is known -/
theorem ctX_ofI {l : Launch} {y : MethodName} {cc : ByteArray} {nL : Nat} {ret : Option FieldType} {fr lo : Nat} {P : PP} {L : List Nat} {q : PL} {s : S1} {argv : List Value} {rv : PL → Option Value} {n' : Nat × Nat} {s' : S1}
    (hy : plainName y.cls = true) (hin : y.name = "<init>") (hn : (lg_sl argv).length ≤ nL)
    (k : ∀ (X : Cx) (ls : Array Slot), xP X = P → xl X = l → Gd X y cc nL ret fr lo y.cls → (xh X).name = "<init>" → RtX X L q n' s' rv → lv_has ls nL (lv_args 0 argv) → WW X q s 0 ls []) : CtX l y cc nL ret fr lo P L q s argv rv n' s' := by
  refine Met.ofW (cc := cc) (maxL := nL) (ret := ret) hy rfl ?_
  intro p e s0 m args below meth c s₁ B hml hv
  obtain ⟨rfl, hW, hK⟩ := hv
  have hts := atoms_spec (ws := Cond.code y cc nL ret :: wA) B.pre
  have e1 : s0.heap.size = q.2.1 := hW.1
  have e2 : tot s0.heap = q.2.2 := hW.2.1
  have hnm : meth.name = "<init>" := (name_of_methodNamed B.named B.method).1.trans hin
  have hl := lv_entry argv (n := nL) hn
  rw [lg_entry_eq]
  have z := k ((p, l, e, (headSpec (Cond.code y cc nL ret :: wA) { frames := fr, cells := cC P q.2.1, slots := cS P q.2.2, locals := lo }).room, s0, m), (argv.toArray, below, meth, c), MQ below (QeX P L q n' s' rv) argv.toArray s0 (cC P q.2.1) (cS P q.2.2) (fun a => P.1 ≤ a), P) _ rfl rfl
    ⟨⟨B.exec, B.bytes⟩, hml, findClass_of_methodNamed B.named, hts, hK, ⟨rfl, rfl, by show cC P q.2.1 = cC P s0.heap.size; rw [e1], by show cS P q.2.2 = cS P (tot s0.heap); rw [e2]⟩, B.returns, B.notSynchronized⟩ hnm
    (by unfold RtX; show MQ _ _ _ _ _ _ _ = MQ _ _ _ _ (cC P s0.heap.size) (cS P (tot s0.heap)) _; rw [e1, e2]) hl s0.heap [] hW va_S.rf
  exact w_tight (by omega) (by omega) z
theorem ww_obj {X : Cx} {q : PL} {s : S1} {y : MethodName} {cc : ByteArray} {nL : Nat} {ret : Option FieldType} {fr lo : Nat} {own : String} {pc : Nat} {ls : Array Slot} {rest : List Value} {ix a : Nat} (g : Gd X y cc nL ret fr lo own) (hw : Cond.methodLink own ix objectInit ∈ wA) (hw1 : Cond.instanceMethod objectInit ∈ wA) (hw2 : Cond.code objectInit ⟨#[0xb1]⟩ 1 none ∈ wA) (hR : 1 ≤ fr ∧ 20 ≤ lo) (hsz : ls.size = nL) (hrest : (rest.map fun v => v.category).sum ≤ 8) (hdg : decode cc pc = .ok (.invokespecial ix, 3)) (kk : WW X q s (pc + 3) ls rest) : WW X q s pc ls (.ref a :: rest) := by
  intro H locs hW hS
  obtain ⟨⟨hx, hb⟩, hml, hown, hts, hK, ⟨hR1, hR2, -, -⟩, -⟩ := g
  refine W.objInit hx hb hown (hts _ (List.mem_cons_of_mem _ hw)) (hts _ (List.mem_cons_of_mem _ hw1)) (hts _ (List.mem_cons_of_mem _ hw2)) rfl (by rw [hml]; exact hsz) rfl hdg (by rw [hR1]; exact hR.1) (by rw [hR2]; show 2 * 0 + _ + 12 ≤ _; omega) (kk H locs hW hS)
