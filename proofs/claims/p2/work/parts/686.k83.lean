/-! The class: what the turns do to the number, further. -/
theorem hu_S {α β : Type} {f : M α} {g : α → M β} {s : S1} {Q : β → S1 → Prop} (h : ∀ a t, hu (g a) t Q) : hu (oB f g) s Q := (hu_B f g s Q).2 fun a t _ => h a t
theorem Kct.tr {x k l : Int32} {s t w : S1} (a : Kct x k s t) (b : Kct x l t w) : Kct x l s w := by
  obtain ⟨a1, a2, a3, a4, a5, a6⟩ := a
  obtain ⟨b1, b2, b3, b4, b5, b6⟩ := b
  refine ⟨fun f i p q => (b1 f i p q).trans (a1 f i p q), fun i q => (b2 i q).trans (a2 i q), b3, fun i j => (b4 i j).trans (a4 i j), fun i => ?_, fun i => ?_⟩
  · rcases b5 i with z | z
    · rw [z]
      exact a5 i
    · exact .inr z
  · rcases b6 i with z | z
    · rw [z]
      exact a6 i
    · exact .inr z
theorem Kct.set (x k : Int32) (s : S1) : Kct x k s (sI s 18948 x k) := by
  have g : ∀ f i, f ≠ 18948 → gI (sI s 18948 x k) f i = gI s f i := fun f i q => by rw [gI_sI, if_neg (fun z => q z.1)]
  refine ⟨fun f i _ q => g f i q, fun i q => ?_, ?_, fun _ _ => rfl, fun i => .inl (g _ _ (by decide)), fun i => .inl (g _ _ (by decide))⟩
  · show gI _ 18948 i = _
    rw [gI_sI, if_neg (fun z => q z.2)]
  · show gI _ 18948 x = _
    rw [gI_sI, if_pos ⟨rfl, rfl⟩]
theorem empty_hu (c : Int32) (s : S1) : hu (M_Ma_empty c) s (fun _ t => Kct c 0 s t) := by
  simp only [M_Ma_empty, hu_B, hu_PI, hu_R]
  refine hu_mono ((ko_He_closeFrom c 0).h s) fun _ t k => ?_
  have q := k.kct (Kct.set c 0 t)
  have k2 : Kor true true (sI t 18948 c 0) (sI (sI t 18948 c 0) 18949 c 0) := ko_PI (by decide) _ () _ rfl
  exact q.kor k2
theorem un61_hu {s : S1} {n : Nat × Nat} {k : Int32} (W : cW s n) (F : qFr false s) (k1 : k.toInt ≤ (oD s (mCur s)).toInt) : hu (M_Ma_unwind_j61 (mCur s) k) s (fun _ t => gI t 16396 0 = 0 ∨ Om t + 4 ≤ Om s) := by
  have ac := W.cur
  obtain ⟨-, dD, -⟩ := W.hi.dep ac
  have e0 : (0 : Int32).toInt = 0 := rfl
  have e1 : (1 : Int32).toInt = 1 := rfl
  simp only [M_Ma_unwind_j61, hu_B, hu_C, hu_GI, hu_PI, hu_K, hu_R]
  refine ⟨fun _ => ?_, fun c _ => ?_⟩
  · intro a t e
    obtain ⟨Wt, Ft, I, -⟩ := (empty_ok W F).det a t e
    have kt := empty_hu _ s a t e
    have cur : mCur t = mCur s := I _ _ (by unfold lvI; decide)
    have le : Om t ≤ Om s := kt.le ac.1.1 (Nat.zero_le _)
    refine ⟨fun r0 => ?_, fun _ => hu_mono (endErr_hu t) fun _ u q => .inl q⟩
    rw [← cur] at r0
    refine hu_mono (backRes_hu Wt Ft r0) fun v u q => ⟨fun _ => hu_mono (ko_Ma_giveError.h u) fun _ w kw => .inr ?_, fun _ => .inr (by omega)⟩
    have := kw.oM
    omega
  · rw [i32_le] at c
    have ek : (k - 1).toInt = k.toInt - 1 := by rw [ktI_sub] <;> omega
    refine hu_mono ((ko_He_closeFrom _ _).h s) fun _ t kt => hu_mono (pop_hu _ _) fun _ u q => hu_mono (ko_Ma_giveError.h u) fun _ w kw => .inr ?_
    have ed : oD (sI t 18948 (mCur s) k) (mCur s) = k := by
      show gI _ 18948 _ = _
      rw [gI_sI, if_pos ⟨rfl, rfl⟩]
    rw [ed] at q
    have z := (kt.kct ((Kct.set (mCur s) k t).tr q)).kor kw
    exact z.oM ac.1.1 ⟨ac.1.2, ac.2⟩ (by omega) (by omega)
theorem unwind_hu {s : S1} {n : Nat × Nat} (h : St5 s n) : hu M_Ma_unwind s (fun _ t => gI t 16396 0 = 0 ∨ Om t + 4 ≤ Om s) := by
  obtain ⟨W, F, h1, t5, er⟩ := h
  simp only [M_Ma_unwind, hu_B, hu_C, hu_GI, hu_R, hu_Pr]
  intro a0 a ea
  obtain ⟨ka, za⟩ := (rClear_ok 132 s).det a0 a ea
  have oa := (ko_Ro_clear 132 0 (by decide)).h s a0 a ea
  obtain ⟨q1, q2, q3, q4⟩ := cRx.kept (.inl rfl) ka W (fun _ => cRow.nil za)
  have la := cRx.lw (.inl rfl) ka
  have Wa := la.w W F q1 q2 q3 q4
  have Fa := la.fr W F (fun z => absurd z (by decide))
  intro b0 b eb
  obtain ⟨kb, zb⟩ := (rClear_ok 138 a).det b0 b eb
  have ob := (ko_Ro_clear 138 0 (by decide)).h a b0 b eb
  obtain ⟨q1, q2, q3, q4⟩ := cRx.kept (.inr (.inr (.inl rfl))) kb Wa (fun _ => cRow.nil zb)
  have lb := cRx.lw (.inr (.inr (.inl rfl))) kb
  have Wb := lb.w Wa Fa q1 q2 q3 q4
  have Fb := lb.fr Wa Fa (fun z => absurd z (by decide))
  have ol : Om b ≤ Om s := (oa.trans ob).oM
  clear q1 q2 q3 q4 la lb ka kb za zb Wa Fa W F h1 t5 er oa ob ea eb
  refine ⟨fun _ _ => ?_, fun _ => ?_⟩
  · refine hu_mono (hu_W (fun y t => t = b ∧ y.1 = mCur b ∧ y.2.toInt ≤ (oD b (mCur b)).toInt) (Q := fun y t => t = b ∧ y.1 = mCur b ∧ y.2.toInt ≤ (oD b (mCur b)).toInt) ?_ (gI b 16395 0, gI b 18948 (gI b 16395 0)) b ⟨rfl, rfl, Int.le_refl _⟩) ?_
    · rintro ⟨c, k⟩ t ⟨et, ec, hk⟩
      dsimp only at ec hk
      have e0 : (0 : Int32).toInt = 0 := rfl
      have em : (-1 : Int32).toInt = -1 := rfl
      unfold M_Ma_unwind_L36
      dsimp only
      rw [hu_C, hu_R, hu_B, hu_K]
      refine ⟨fun _ => ⟨et, ec, hk⟩, fun z _ => ?_⟩
      rw [i32_le] at z
      have ek' : (k + -1).toInt = k.toInt - 1 := by
        have := Int32.toInt_lt k
        rw [ktI_add] <;> omega
      rw [hu_B, hu_GI, hu_C, hu_R, hu_R]
      exact ⟨fun _ => ⟨et, ec, hk⟩, fun _ => ⟨et, ec, by dsimp only; omega⟩⟩
    · rintro ⟨c, k⟩ t ⟨et, ec, hk⟩
      dsimp only at ec hk
      rw [et]
      dsimp only
      rw [ec]
      refine hu_mono (un61_hu Wb Fb hk) fun _ u q => q.imp id (fun z => by omega)
  · unfold M_Ma_endAll M_Ma_endAll_j63
    refine hu_S fun _ _ => hu_S fun _ _ => hu_S fun _ _ => hu_S fun _ _ => ?_
    rw [hu_B]
    refine hu_mono (endErr_hu _) fun _ u q => ?_
    rw [hu_R]
    exact .inl q
theorem decide_hu (k : Int32) (s : S1) : hu (M_St_decide k) s (fun _ t => gI t 16396 0 = gI s 16396 0) := by
  have g : ∀ j x, gI (sI s 19461 j x) 16396 0 = gI s 16396 0 := fun j x => by rw [gI_sI, if_neg (fun z => absurd z.1 (by decide))]
  simp only [M_St_decide, M_St_decide_j22, M_St_decide_j30, hu_B, hu_C, hu_GI, hu_PI, hu_R, hu_Pr]
  intro _
  exact ⟨fun _ => ⟨fun _ => g _ _, fun _ => g _ _⟩, fun _ => ⟨fun _ => g _ _, fun _ => g _ _⟩⟩
def Df (s t : S1) : Prop := gI t 16396 0 = 0 ∨ Kor true false s t
theorem finish_hu (s : S1) : hu M_St_finish s (fun _ t => Df s t) := by
  have cl0 : ∀ u, gI u 16396 0 = 0 → hu M_St_finish_j235 u (fun _ t => Df s t) := fun u z => by
    simp only [M_St_finish_j235, hu_B, hu_R]
    exact hu_mono ((ko_Ro_clear 135 0 (by decide)).h u) fun _ v k => .inl ((k.2.2.2.2.2 rfl).trans z)
  have cl1 : ∀ u, Kor true false s u → hu M_St_finish_j235 u (fun _ t => Df s t) := fun u z => by
    simp only [M_St_finish_j235, hu_B, hu_R]
    exact hu_mono ((ko_Ro_clear 135 0 (by decide)).h u) fun _ v k => .inr (z.trans k.wu)
  simp only [M_St_finish, M_St_finish_j154, hu_B, hu_C, hu_GI, hu_PI, hu_PL, hu_R, hu_Pr]
  refine hu_mono (ko_St_decode.h s) fun _ t k => ?_
  have k0 : Kor true false s (sI t 16396 0 0) := Kor.trans k.wu (ko_PI5 t () _ rfl)
  have z0 : gI (sI t 16396 0 0) 16396 0 = 0 := by rw [gI_sI, if_pos ⟨rfl, rfl⟩]
  generalize sI t 16396 0 0 = u at k0 z0 ⊢
  have sa : ∀ a b, hu (M_St_setAll a b) u (fun _ v => hu M_St_finish_j235 v (fun _ t => Df s t)) := fun a b => hu_mono ((ko_St_setAll a b).h u) fun _ v kv => cl0 v ((kv.2.2.2.2.2 rfl).trans z0)
  have de : ∀ v, gI v 16396 0 = 0 → ∀ a, hu (M_St_decide a) v (fun _ w => hu M_St_finish_j235 w (fun _ t => Df s t)) := fun v zv a => hu_mono (decide_hu a v) fun _ w q => cl0 w (q.trans zv)
  refine ⟨fun _ => cl0 u z0, fun _ => ⟨fun _ _ => ?_, fun _ => ⟨fun _ => ?_, fun _ => ⟨fun _ => ⟨fun _ => ?_, fun _ => sa _ _⟩, fun _ => ⟨fun _ => sa _ _, fun _ => sa _ _⟩⟩⟩⟩⟩
  · refine hu_mono ((ko_Ro_kindAt 135 0 0).h u) fun x v kv _ => ?_
    have k1 : Kor true true v (sI v 19462 (gI u 16517 0) x) := ko_PI (by decide) v () _ rfl
    refine hu_mono ((ko_Ro_valueAt 135 0 0).h _) fun y w kw => ?_
    have k2 : Kor true true w (sL w 19463 (gI (sI v 19462 (gI u 16517 0) x) 16517 0) y) := ko_PL w () _ rfl
    refine cl1 _ (Kor.trans k0 (Kor.trans kv.wu (Kor.trans k1.wu (Kor.trans kw.wu (Kor.trans k2.wu ?_)))))
    exact ko_PI5 _ () _ rfl
  · refine hu_mono ((ko_Ro_kindAt 135 0 0).h u) fun x v kv => ?_
    have zv := (kv.2.2.2.2.2 rfl).trans z0
    exact ⟨fun _ => de v zv _, fun _ => de v zv _⟩
  · have z1 : gI (sI u 16390 0 (gI u 16521 0)) 16396 0 = 0 := by
      rw [gI_sI, if_neg (fun z => absurd z.1 (by decide))]
      exact z0
    exact hu_mono ((ko_Ro_takeAll 138 0 135 0 (by decide) (by decide)).h _) fun _ v kv => cl0 v ((kv.2.2.2.2.2 rfl).trans z1)
theorem push_hu (c k f r : Int32) (s : S1) : hu (M_Co_push c k f r) s (fun v t => v = 0 → t = s) := by
  unfold M_Co_push
  rw [hu_B, hu_GI, hu_C, hu_R, hu_B, hu_GI, hu_C]
  refine ⟨fun _ _ => rfl, fun _ => ⟨fun _ => ?_, fun _ => (hu_R ..).2 fun _ => rfl⟩⟩
  have last : ∀ u, hu (oR (1 : Int32)) u (fun v t => v = 0 → t = s) := fun u => (hu_R ..).2 fun z => absurd z (by decide)
  repeat (first | exact last _ | refine hu_S fun _ _ => ?_)
theorem enterClosure_hu (x : Int32) (s : S1) : hu (M_Ma_enterClosure x) s (fun _ t => Df s t) := by
  have last : ∀ u, hu (oB (oPI 16396 0 0) fun _ => oR ()) u (fun _ t => Df s t) := fun u => by
    rw [hu_B, hu_PI, hu_R]
    refine .inl ?_
    rw [gI_sI, if_pos ⟨rfl, rfl⟩]
  have j : ∀ p c e, hu (M_Ma_enterClosure_j54 x p c e) s (fun _ t => Df s t) := fun p c e => by
    unfold M_Ma_enterClosure_j54
    rw [hu_B, hu_GI, hu_B]
    refine hu_mono (push_hu _ _ _ _ s) fun v t q => ?_
    rw [hu_C]
    refine ⟨fun z => ?_, fun _ => ?_⟩
    · rw [q z, hu_B]
      refine hu_mono ((ko_Ma_fail 4).h s) fun _ u k => ?_
      rw [hu_R]
      exact .inr k
    · repeat (first | exact last _ | refine hu_S fun _ _ => ?_)
  simp only [M_Ma_enterClosure, hu_B, hu_C, hu_GI, hu_Pr, hu_Pz]
  intro _ _ _
  refine ⟨fun _ => ?_, fun _ => j _ _ _⟩
  intro v t e
  obtain ⟨et, -⟩ := (kmax_ok _ _ s).det v t e
  rw [et]
  exact j _ _ _
