/-! Made by wip/l4/w5gen.py: the fault and the tape stay. -/
theorem w5_Mo_lookOver_j65 (l1 : Int32) (l2 : Int32) : W5k (M_Mo_lookOver_j65 l1 l2) := by
  unfold M_Mo_lookOver_j65
  repeat' with_reducible (first | exact w5_R _ | intro _)
theorem w5_Mo_lookOver_j71 (l1 : Int32) : W5k (M_Mo_lookOver_j71 l1) := by
  unfold M_Mo_lookOver_j71
  repeat' with_reducible (first | exact w5_R _ | intro _)
theorem w5_Mo_collection_j61 (l1 : Int32) : W5k (M_Mo_collection_j61 l1) := by
  unfold M_Mo_collection_j61
  repeat' with_reducible (first | exact w5_R _ | intro _)
theorem w5_Mo_collection_L30 (x) : W5k (M_Mo_collection_L30 x) := by
  unfold M_Mo_collection_L30
  repeat' with_reducible (first | apply w5_B | apply w5_C | exact w5_Mo_collection_j61 _ | exact w5_Mo_place _ | exact w5_R _ | exact w5_GI _ _ | exact w5_AI _ _ _ _ | intro _)
theorem w5_Mo_collection_L104 (x) : W5k (M_Mo_collection_L104 x) := by
  unfold M_Mo_collection_L104
  repeat' with_reducible (first | apply w5_B | apply w5_C | exact w5_Mo_place _ | exact w5_R _ | exact w5_GI _ _ | exact w5_K _ | intro _)
theorem w5_Mo_collection_L218 (x) : W5k (M_Mo_collection_L218 x) := by
  unfold M_Mo_collection_L218
  repeat' with_reducible (first | apply w5_B | apply w5_C | exact w5_Mo_follow _ | exact w5_R _ | exact w5_GI _ _ | exact w5_PI (by omega) | exact w5_AI _ _ _ _ | intro _)
theorem w5_Mo_collection  : W5k (M_Mo_collection) := by
  unfold M_Mo_collection
  repeat' with_reducible (first | apply w5_B | exact w5_Arr_fill____ _ _ _ _ _ (by omega) | exact w5_Mo_collection_L30 _ | exact w5_Mo_place _ | exact w5_Mo_collection_L104 _ | exact w5_Mo_markRow _ _ _ _ | exact w5_Mo_mark _ _ | exact w5_Mo_collection_L218 _ | exact w5_Mo_sweep | exact w5_R _ | exact w5_GI _ _ | exact w5_GL _ _ | exact w5_PI (by omega) | exact w5_K _ | apply w5_W | intro _)
theorem w5_Mo_grow_j59 (l1 : Int32) (l2 : Int32) : W5k (M_Mo_grow_j59 l1 l2) := by
  unfold M_Mo_grow_j59
  repeat' with_reducible (first | apply w5_B | apply w5_C | exact w5_Mo_move _ _ _ | exact w5_Mo_raise _ | exact w5_R _ | exact w5_GI _ _ | exact w5_PI (by omega) | exact w5_AI _ _ _ _ | intro _)
theorem w5_Mo_grow_j21 (l1 : Int32) (k0 : Int32) : W5k (M_Mo_grow_j21 l1 k0) := by
  unfold M_Mo_grow_j21
  repeat' with_reducible (first | apply w5_B | apply w5_C | exact w5_Mo_grow_j59 _ _ | exact w5_Mo_collection | exact w5_Mo_raise _ | exact w5_R _ | exact w5_GI _ _ | intro _)
theorem w5_Mo_grow (l1 : Int32) : W5k (M_Mo_grow l1) := by
  unfold M_Mo_grow
  repeat' with_reducible (first | apply w5_B | apply w5_C | exact w5_Mo_grow_j21 _ _ | exact w5_AI _ _ _ _ | intro _)
theorem w5_Mo_collect_j19 (k0 : Int32) (k1 : Int32) : W5k (M_Mo_collect_j19 k0 k1) := by
  unfold M_Mo_collect_j19
  repeat' with_reducible (first | apply w5_B | apply w5_C | exact w5_Mo_refuse _ _ | exact w5_Mo_collection | exact w5_R _ | exact w5_GI _ _ | intro _)
theorem w5_Mo_collect  : W5k (M_Mo_collect) := by
  unfold M_Mo_collect
  repeat' with_reducible (first | apply w5_B | apply w5_C | exact w5_Mo_collect_j19 _ _ | exact w5_GI _ _ | exact w5_PI (by omega) | intro _)
theorem w5_Mo_may_j82  : W5k (M_Mo_may_j82) := by
  unfold M_Mo_may_j82
  repeat' with_reducible (first | apply w5_B | exact w5_Mo_raise _ | exact w5_R _ | intro _)
theorem w5_Mo_may_j56 (l1 : Int32) : W5k (M_Mo_may_j56 l1) := by
  unfold M_Mo_may_j56
  repeat' with_reducible (first | apply w5_B | apply w5_C | exact w5_Mo_may_j82 | exact w5_R _ | exact w5_GI _ _ | intro _)
theorem w5_Mo_may_j45 (l1 : Int32) : W5k (M_Mo_may_j45 l1) := by
  unfold M_Mo_may_j45
  repeat' with_reducible (first | apply w5_B | apply w5_C | exact w5_Mo_collection | exact w5_Mo_may_j56 _ | exact w5_GI _ _ | intro _)
theorem w5_Mo_may (l1 : Int32) : W5k (M_Mo_may l1) := by
  unfold M_Mo_may
  repeat' with_reducible (first | apply w5_B | apply w5_C | exact w5_Mo_raise _ | exact w5_Mo_may_j45 _ | exact w5_R _ | exact w5_GI _ _ | intro _)
theorem w5_Mo_newVariable  : W5k (M_Mo_newVariable) := by
  unfold M_Mo_newVariable
  repeat' with_reducible (first | apply w5_B | apply w5_C | exact w5_Mo_may _ | exact w5_Mo_object _ | exact w5_Va_set _ _ _ _ _ (by omega) | exact w5_R _ | exact w5_SI (by omega) | intro _)
theorem w5_Mo_put_j192 (l1 : Int32) (l2 : Int32) (l3 : Int64) (l5 : Int32) (l6 : Int64) : W5k (M_Mo_put_j192 l1 l2 l3 l5 l6) := by
  unfold M_Mo_put_j192
  repeat' with_reducible (first | apply w5_B | exact w5_Mo_append _ _ _ _ _ | exact w5_R _ | intro _)
theorem w5_Mo_put_j174 (l1 : Int32) (l2 : Int32) (l3 : Int64) (l5 : Int32) (l6 : Int64) (l9 : Int32) (k0 : Int32) : W5k (M_Mo_put_j174 l1 l2 l3 l5 l6 l9 k0) := by
  unfold M_Mo_put_j174
  repeat' with_reducible (first | apply w5_B | apply w5_C | exact w5_Mo_put_j192 _ _ _ _ _ | exact w5_R _ | exact w5_PI (by omega) | intro _)
theorem w5_Mo_put_j169 (l1 : Int32) (l2 : Int32) (l3 : Int64) (l5 : Int32) (l6 : Int64) (l9 : Int32) : W5k (M_Mo_put_j169 l1 l2 l3 l5 l6 l9) := by
  unfold M_Mo_put_j169
  repeat' with_reducible (first | exact w5_Mo_put_j174 _ _ _ _ _ _ _ | intro _)
theorem w5_Mo_put_j161 (l1 : Int32) (l2 : Int32) (l3 : Int64) (l5 : Int32) (l6 : Int64) (l9 : Int32) : W5k (M_Mo_put_j161 l1 l2 l3 l5 l6 l9) := by
  unfold M_Mo_put_j161
  repeat' with_reducible (first | apply w5_B | apply w5_C | exact w5_Mo_grow _ | exact w5_Mo_put_j174 _ _ _ _ _ _ _ | exact w5_Mo_put_j169 _ _ _ _ _ _ | intro _)
theorem w5_Mo_put_j96 (l1 : Int32) (l2 : Int32) (l3 : Int64) (l5 : Int32) (l6 : Int64) : W5k (M_Mo_put_j96 l1 l2 l3 l5 l6) := by
  unfold M_Mo_put_j96
  repeat' with_reducible (first | apply w5_B | apply w5_C | exact w5_Va_add _ _ _ _ (by omega) | exact w5_Mo_put_j161 _ _ _ _ _ _ | exact w5_Mo_put_j169 _ _ _ _ _ _ | exact w5_GI _ _ | exact w5_AI _ _ _ _ | intro _)
theorem w5_Mo_put (l1 : Int32) (l2 : Int32) (l3 : Int64) (l5 : Int32) (l6 : Int64) : W5k (M_Mo_put l1 l2 l3 l5 l6) := by
  unfold M_Mo_put
  repeat' with_reducible (first | apply w5_B | apply w5_C | exact w5_Mo_raise _ | exact w5_Mo_entry _ _ _ | exact w5_Mo_put_j96 _ _ _ _ _ | exact w5_Mo_move _ _ _ | exact w5_Mo_put_j192 _ _ _ _ _ | exact w5_R _ | exact w5_GI _ _ | exact w5_AI _ _ _ _ | exact w5_SI (by omega) | exact w5_SL | exact w5_K _ | intro _)
theorem w5_Mo_closure_L95 (x) : W5k (M_Mo_closure_L95 x) := by
  unfold M_Mo_closure_L95
  repeat' with_reducible (first | apply w5_B | apply w5_C | exact w5_R _ | exact w5_GI _ _ | exact w5_AI _ _ _ _ | exact w5_SI (by omega) | exact w5_K _ | intro _)
theorem w5_Mo_closure_j83 (l3 : Int32) (l4 : Int32) (k0 : Int32) (k1 : Int32) : W5k (M_Mo_closure_j83 l3 l4 k0 k1) := by
  unfold M_Mo_closure_j83
  repeat' with_reducible (first | apply w5_B | exact w5_Mo_closure_L95 _ | exact w5_R _ | exact w5_GI _ _ | exact w5_PI (by omega) | exact w5_SI (by omega) | apply w5_W | intro _)
theorem w5_Mo_closure (l1 : Int32) (l2 : Int32) (l3 : Int32) : W5k (M_Mo_closure l1 l2 l3) := by
  unfold M_Mo_closure
  repeat' with_reducible (first | apply w5_B | apply w5_C | exact w5_Mo_may _ | exact w5_Mo_object _ | exact w5_Mo_closure_j83 _ _ _ _ | exact w5_Mo_raise _ | exact w5_R _ | exact w5_GI _ _ | exact w5_PI (by omega) | exact w5_SI (by omega) | intro _)
theorem w5_Mo_thread__L12 (x) : W5k (M_Mo_thread__L12 x) := by
  unfold M_Mo_thread__L12
  repeat' with_reducible (first | apply w5_B | apply w5_C | exact w5_R _ | exact w5_GI _ _ | exact w5_K _ | intro _)
theorem w5_Mo_thread_  : W5k (M_Mo_thread_) := by
  unfold M_Mo_thread_
  repeat' with_reducible (first | apply w5_B | apply w5_C | exact w5_Mo_may _ | exact w5_Mo_thread__L12 _ | exact w5_Mo_object _ | exact w5_Th_begin _ _ | exact w5_R _ | exact w5_GI _ _ | exact w5_PI (by omega) | exact w5_SI (by omega) | exact w5_K _ | apply w5_W | intro _)
theorem w5_Mo_rawOf_j33 (l1 : Int32) : W5k (M_Mo_rawOf_j33 l1) := by
  unfold M_Mo_rawOf_j33
  repeat' with_reducible (first | apply w5_B | apply w5_C | exact w5_Mo_is _ _ | exact w5_Mo_raise _ | exact w5_Mo_av _ | exact w5_Mo_ak _ | exact w5_Mo_raw _ _ _ | exact w5_Mo_give _ _ | exact w5_Mo_put _ _ _ _ _ | exact w5_Mo_border _ | exact w5_R _ | exact w5_GI _ _ | exact w5_GL _ _ | intro _)
theorem w5_Mo_rawOf (l1 : Int32) : W5k (M_Mo_rawOf l1) := by
  unfold M_Mo_rawOf
  repeat' with_reducible (first | apply w5_B | apply w5_C | exact w5_Mo_is _ _ | exact w5_Mo_rawOf_j33 _ | exact w5_Mo_av _ | exact w5_Mo_give _ _ | exact w5_R _ | exact w5_AI _ _ _ _ | intro _)
theorem w5_Mo_create (l1 : Int32) : W5k (M_Mo_create l1) := by
  unfold M_Mo_create
  repeat' with_reducible (first | apply w5_B | apply w5_C | exact w5_Mo_is _ _ | exact w5_Mo_raise _ | exact w5_Mo_thread_ | exact w5_Va_add_ _ _ _ _ _ (by omega) | exact w5_Mo_give _ _ | exact w5_Va_add _ _ _ _ (by omega) | exact w5_Mo_closure _ _ _ | exact w5_R _ | exact w5_GI _ _ | exact w5_PI (by omega) | exact w5_AI _ _ _ _ | exact w5_K _ | intro _)
theorem w5_Mo_write_L9 (x) : W5k (M_Mo_write_L9 x) := by
  unfold M_Mo_write_L9
  repeat' with_reducible (first | apply w5_B | apply w5_C | exact w5_Mo_raw _ _ _ | exact w5_Mo_meta _ _ _ | exact w5_R _ | exact w5_GI _ _ | exact w5_GL _ _ | intro _)
theorem w5_Mo_write_j48 (l4 : Int32) (l5 : Int64) (l7 : Int32) (l8 : Int64) (l11 : Int64) : W5k (M_Mo_write_j48 l4 l5 l7 l8 l11) := by
  unfold M_Mo_write_j48
  repeat' with_reducible (first | apply w5_B | exact w5_Mo_put _ _ _ _ _ | exact w5_R _ | intro _)
theorem w5_Mo_write (l1 : Int32) (l2 : Int64) (l4 : Int32) (l5 : Int64) (l7 : Int32) (l8 : Int64) : W5k (M_Mo_write l1 l2 l4 l5 l7 l8) := by
  unfold M_Mo_write
  repeat' with_reducible (first | apply w5_B | exact w5_Mo_write_L9 _ | exact w5_Mo_raise _ | exact w5_Mo_write_j48 _ _ _ _ _ | exact w5_Mo_arguments _ _ _ _ | exact w5_Va_add _ _ _ _ (by omega) | exact w5_Mo_expect _ _ _ | exact w5_Mo_callGot | exact w5_R _ | apply w5_W | apply w5_E | intro _)
theorem w5_Mo_list_j145 (l1 : Int32) (l2 : Int32) (l3 : Int32) (l4r : Nat) (l4 : Int32) (l5 : Int32) (l6 : Int32) (l7 : Int32) (l9r : Nat) (l9 : Int32) (k0 : Int32) : W5k (M_Mo_list_j145 l1 l2 l3 l4r l4 l5 l6 l7 l9r l9 k0) := by
  unfold M_Mo_list_j145
  repeat' with_reducible (first | apply w5_B | apply w5_C | exact w5_Mo_c _ | exact w5_Mo_put _ _ _ _ _ | exact w5_R _ | exact w5_AI _ _ _ _ | exact w5_AL _ _ _ _ | intro _)
theorem w5_Mo_list_j116 (l1 : Int32) (l2 : Int32) (l3 : Int32) (l4r : Nat) (l4 : Int32) (l5 : Int32) (l6 : Int32) (l7 : Int32) (l8 : Int32) (k0r : Nat) (k0 : Int32) : W5k (M_Mo_list_j116 l1 l2 l3 l4r l4 l5 l6 l7 l8 k0r k0) := by
  unfold M_Mo_list_j116
  repeat' with_reducible (first | apply w5_B | apply w5_C | exact w5_Mo_list_j145 _ _ _ _ _ _ _ _ _ _ _ | exact w5_Mo_a _ | exact w5_AI _ _ _ _ | intro _)
theorem w5_Mo_list_j100 (l1 : Int32) (l2 : Int32) (l3 : Int32) (l4r : Nat) (l4 : Int32) (l5 : Int32) (l6 : Int32) (l7 : Int32) (k0 : Int32) : W5k (M_Mo_list_j100 l1 l2 l3 l4r l4 l5 l6 l7 k0) := by
  unfold M_Mo_list_j100
  repeat' with_reducible (first | apply w5_C | exact w5_Mo_list_j116 _ _ _ _ _ _ _ _ _ _ _ | intro _)
theorem w5_Mo_list_j99 (l1 : Int32) (l2 : Int32) (l3 : Int32) (l4r : Nat) (l4 : Int32) (l5 : Int32) (l6 : Int32) (l7 : Int32) : W5k (M_Mo_list_j99 l1 l2 l3 l4r l4 l5 l6 l7) := by
  unfold M_Mo_list_j99
  repeat' with_reducible (first | exact w5_Mo_list_j100 _ _ _ _ _ _ _ _ _ | intro _)
theorem w5_Mo_list_L65 (x) : W5k (M_Mo_list_L65 x) := by
  unfold M_Mo_list_L65
  repeat' with_reducible (first | apply w5_B | apply w5_C | exact w5_Mo_b _ | exact w5_Mo_a _ | exact w5_Mo_list_j99 _ _ _ _ _ _ _ _ | exact w5_Mo_list_j100 _ _ _ _ _ _ _ _ _ | exact w5_R _ | exact w5_AI _ _ _ _ | intro _)
theorem w5_Mo_list_j199 (l1 : Int32) (l2 : Int32) : W5k (M_Mo_list_j199 l1 l2) := by
  unfold M_Mo_list_j199
  repeat' with_reducible (first | apply w5_B | exact w5_R _ | exact w5_SI (by omega) | intro _)
theorem w5_Mo_list_j34 (l1 : Int32) (l2 : Int32) (l3 : Int32) (l4r : Nat) (l4 : Int32) (l5 : Int32) (k0 : Int32) : W5k (M_Mo_list_j34 l1 l2 l3 l4r l4 l5 k0) := by
  unfold M_Mo_list_j34
  repeat' with_reducible (first | apply w5_B | apply w5_C | exact w5_Mo_list_L65 _ | exact w5_Mo_list_j199 _ _ | exact w5_Mo_raise _ | exact w5_R _ | exact w5_AI _ _ _ _ | exact w5_SI (by omega) | apply w5_W | apply w5_E | intro _)
theorem w5_Mo_list (l1 : Int32) (l2 : Int32) (l3 : Int32) (l4r : Nat) (l4 : Int32) (l5 : Int32) : W5k (M_Mo_list l1 l2 l3 l4r l4 l5) := by
  unfold M_Mo_list
  repeat' with_reducible (first | apply w5_B | apply w5_C | exact w5_Mo_b _ | exact w5_Mo_a _ | exact w5_Mo_list_j34 _ _ _ _ _ _ _ | exact w5_AI _ _ _ _ | intro _)
theorem w5_Mo_variableAt_L2 (x) : W5k (M_Mo_variableAt_L2 x) := by
  unfold M_Mo_variableAt_L2
  repeat' with_reducible (first | apply w5_B | apply w5_C | exact w5_R _ | exact w5_GI _ _ | exact w5_AI _ _ _ _ | intro _)
theorem w5_Mo_variableAt (l1 : Int32) (l2 : Int32) : W5k (M_Mo_variableAt l1 l2) := by
  unfold M_Mo_variableAt
  repeat' with_reducible (first | apply w5_B | apply w5_C | exact w5_Mo_variableAt_L2 _ | exact w5_Mo_may _ | exact w5_Mo_object _ | exact w5_Mo_thread _ | exact w5_R _ | exact w5_GI _ _ | exact w5_PI (by omega) | exact w5_AI _ _ _ _ | exact w5_SI (by omega) | apply w5_W | apply w5_E | intro _)
theorem w5_Mo_table  : W5k (M_Mo_table) := by
  unfold M_Mo_table
  repeat' with_reducible (first | apply w5_B | apply w5_C | exact w5_Mo_may _ | exact w5_Mo_object _ | exact w5_R _ | exact w5_SI (by omega) | intro _)
theorem w5_Mo_small_j133 (l1 : Int32) (l2 : Int32) (l4 : Int32) (k0 : Int32) (k1 : Int32) (k2r : Nat) (k2 : Int32) (h5 : (k2r ≠ 39 ∧ k2r ≠ 40 ∧ k2r ≠ 41)) : W5k (M_Mo_small_j133 l1 l2 l4 k0 k1 k2r k2) := by
  unfold M_Mo_small_j133
  repeat' with_reducible (first | apply w5_B | apply w5_C | exact w5_Va_set _ _ _ _ _ (by omega) | exact w5_Mo_c _ | exact w5_R _ | exact w5_AI _ _ _ _ | exact w5_SI (by omega) | intro _)
theorem w5w_Mo_small_L161 (x) (h : (x.2.1 ≠ 39 ∧ x.2.1 ≠ 40 ∧ x.2.1 ≠ 41)) : W5k (oW M_Mo_small_L161 x) := by
  refine (w5p_W (I := fun x => (x.2.1 ≠ 39 ∧ x.2.1 ≠ 40 ∧ x.2.1 ≠ 41)) (J := fun _ => True) (fun x hx => ?_) _ h).k
  unfold M_Mo_small_L161
  exact w5p_B (w5_Mo_b _).p fun _ _ => w5p_C (w5p_R trivial) (w5p_B (w5_Va_set _ _ _ _ _ hx).p fun _ _ => w5p_R hx)
theorem w5_Mo_small (l1 : Int32) (l2 : Int32) (l3 : Int32) (l4 : Int32) (l5 : Int32) (l6r : Nat) (l6 : Int32) (l7 : Int32) (h5 : (l6r ≠ 39 ∧ l6r ≠ 40 ∧ l6r ≠ 41)) : W5k (M_Mo_small l1 l2 l3 l4 l5 l6r l6 l7) := by
  unfold M_Mo_small
  repeat' with_reducible (first | apply w5_B | apply w5_C | exact w5w_Mo_small_L161 _ (by dsimp only; omega) | exact w5_Mo_b _ | exact w5_Va_set_ _ _ _ _ _ _ (by omega) | exact w5_Mo_bx _ | exact w5_Mo_constant _ _ | exact w5_Va_set _ _ _ _ _ (by omega) | exact w5_Mo_small_j133 _ _ _ _ _ _ _ (by omega) | exact w5_Mo_up _ _ _ | exact w5_Mo_load _ | exact w5_Mo_c _ | exact w5_Mo_rk_ _ _ _ _ | exact w5_Mo_a _ | exact w5_Mo_index _ _ _ _ _ | exact w5_Mo_write _ _ _ _ _ _ | exact w5_Mo_store _ _ _ | exact w5_Mo_table | exact w5_R _ | exact w5_GI _ _ | exact w5_GL _ _ | exact w5_AI _ _ _ _ | exact w5_AL _ _ _ _ | apply w5_W | intro _)
theorem w5_Mo_closure__j97 (l1 : Int32) (l2 : Int32) (l5r : Nat) (l5 : Int32) (l6 : Int32) (l7 : Int32) (l8 : Int32) (l9 : Int32) (k0 : Int32) : W5k (M_Mo_closure__j97 l1 l2 l5r l5 l6 l7 l8 l9 k0) := by
  unfold M_Mo_closure__j97
  repeat' with_reducible (first | apply w5_B | apply w5_C | exact w5_Va_add _ _ _ _ (by omega) | exact w5_R _ | exact w5_SI (by omega) | intro _)
theorem w5_Mo_closure__L31 (x) : W5k (M_Mo_closure__L31 x) := by
  unfold M_Mo_closure__L31
  repeat' with_reducible (first | apply w5_B | apply w5_C | exact w5_Mo_variableAt _ _ | exact w5_Mo_closure__j97 _ _ _ _ _ _ _ _ _ | exact w5_Mo_up _ _ _ | exact w5_R _ | exact w5_AI _ _ _ _ | intro _)
theorem w5_Mo_closure_ (l1 : Int32) (l2 : Int32) (l3 : Int32) (l4 : Int32) (l5r : Nat) (l5 : Int32) (l6 : Int32) (h4 : (l5r ≠ 39 ∧ l5r ≠ 40 ∧ l5r ≠ 41)) : W5k (M_Mo_closure_ l1 l2 l3 l4 l5r l5 l6) := by
  have j97 : ∀ (a b : Int32) (r : Nat) (d e f g i k : Int32), (r ≠ 39 ∧ r ≠ 40 ∧ r ≠ 41) → W5p (Sum.elim (fun y => (y.2.2.1 ≠ 39 ∧ y.2.2.1 ≠ 40 ∧ y.2.2.1 ≠ 41)) (Sum.elim (fun _ => True) (fun y => (y.1 ≠ 39 ∧ y.1 ≠ 40 ∧ y.1 ≠ 41)))) (M_Mo_closure__j97 a b r d e f g i k) := fun a b r d e f g i k h => by
    unfold M_Mo_closure__j97
    exact w5p_C (w5p_B (w5_SI (by decide)).p fun _ _ => w5p_B (w5_Va_add _ _ _ _ (by decide)).p fun _ _ => w5p_R h) (w5p_R trivial)
  have lp : ∀ x, (x.2.2.1 ≠ 39 ∧ x.2.2.1 ≠ 40 ∧ x.2.2.1 ≠ 41) → W5p (Sum.elim (fun _ => True) (fun y => (y.1 ≠ 39 ∧ y.1 ≠ 40 ∧ y.1 ≠ 41))) (oW M_Mo_closure__L31 x) := fun x hx => by
    refine w5p_W (I := fun x => (x.2.2.1 ≠ 39 ∧ x.2.2.1 ≠ 40 ∧ x.2.2.1 ≠ 41)) (fun x hx => ?_) x hx
    unfold M_Mo_closure__L31
    exact w5p_B (w5_AI _ _ _ _).p fun _ _ => w5p_C (w5p_R hx) (w5p_B (w5_AI _ _ _ _).p fun _ _ => w5p_B (w5_AI _ _ _ _).p fun _ _ => w5p_C (w5p_B (w5_AI _ _ _ _).p fun _ _ => w5p_B (w5_Mo_variableAt _ _).p fun _ _ => j97 _ _ _ _ _ _ _ _ _ hx) (w5p_B (w5_Mo_up _ _ _).p fun _ _ => j97 _ _ _ _ _ _ _ _ _ hx))
  unfold M_Mo_closure_
  refine w5_B (w5_AI _ _ _ _) fun _ => w5_B (w5_Mo_bx _) fun _ => w5_B (w5_AI _ _ _ _) fun _ => w5_B (w5_GI _ _) fun _ => (w5p_B (K := fun _ => True) (lp _ h4) fun e he => ?_).k
  rcases e with e | e
  · exact W5k.p (w5_B (w5_PI (by decide)) fun _ => w5_R _)
  · have he' : (e.1 ≠ 39 ∧ e.1 ≠ 40 ∧ e.1 ≠ 41) := he
    clear he
    simp only [Sum.elim_inr]
    apply W5k.p
    repeat' with_reducible (first | apply w5_B | apply w5_C | exact w5_Mo_closure _ _ _ | exact w5_Va_set _ _ _ _ _ he' | exact w5_AI _ _ _ _ | exact w5_PI (by decide) | exact w5_R _ | intro _)
theorem w5_Mo_high_j303 (l1 : Int32) (l2 : Int32) (l4 : Int32) (l8 : Int32) (l9 : Int32) (k0 : Int32) (k1 : Int32) (k2 : Int32) : W5k (M_Mo_high_j303 l1 l2 l4 l8 l9 k0 k1 k2) := by
  unfold M_Mo_high_j303
  repeat' with_reducible (first | apply w5_B | exact w5_Mo_addAt _ _ _ _ _ _ (by omega) | exact w5_R _ | intro _)
theorem w5_Mo_high_L276 (x) : W5k (M_Mo_high_L276 x) := by
  unfold M_Mo_high_L276
  repeat' with_reducible (first | apply w5_B | apply w5_C | exact w5_Mo_b _ | exact w5_Mo_high_j303 _ _ _ _ _ _ _ _ | exact w5_R _ | intro _)
theorem w5_Mo_high_j235 (l1 : Int32) (l2 : Int32) (l4 : Int32) (k0 : Int32) : W5k (M_Mo_high_j235 l1 l2 l4 k0) := by
  unfold M_Mo_high_j235
  repeat' with_reducible (first | apply w5_B | apply w5_C | exact w5_Mo_a _ | exact w5_Mo_high_L276 _ | exact w5_Mo_close _ _ | exact w5_Mo_raise _ | exact w5_R _ | exact w5_GI _ _ | exact w5_PI (by omega) | exact w5_AI _ _ _ _ | exact w5_SI (by omega) | apply w5_W | intro _)
theorem w5_Mo_high_j405  : W5k (M_Mo_high_j405) := by
  unfold M_Mo_high_j405
  repeat' with_reducible (first | apply w5_B | exact w5_Mo_raise _ | exact w5_R _ | intro _)
theorem w5_Mo_high (l1 : Int32) (l2 : Int32) (l3 : Int32) (l4 : Int32) (l5 : Int32) (l6r : Nat) (l6 : Int32) (l7 : Int32) (h5 : (l6r ≠ 39 ∧ l6r ≠ 40 ∧ l6r ≠ 41)) : W5k (M_Mo_high l1 l2 l3 l4 l5 l6r l6 l7) := by
  unfold M_Mo_high
  repeat' with_reducible (first | apply w5_B | apply w5_C | exact w5_Mo_a _ | exact w5_Mo_b _ | exact w5_Mo_gather _ _ _ _ | exact w5_Mo_c _ | exact w5_Mo_expect _ _ _ | exact w5_Mo_close _ _ | exact w5_Mo_high_j235 _ _ _ _ | exact w5_Mo_loop _ _ _ _ _ _ (by omega) | exact w5_Mo_sbx _ | exact w5_Mo_high_j405 | exact w5_Va_add_ _ _ _ _ _ (by omega) | exact w5_Va_set_ _ _ _ _ _ _ (by omega) | exact w5_Mo_list _ _ _ _ _ _ | exact w5_Mo_closure_ _ _ _ _ _ _ _ (by omega) | exact w5_Mo_further _ _ _ _ _ _ _ (by omega) | exact w5_R _ | exact w5_GI _ _ | exact w5_PI (by omega) | exact w5_PL | exact w5_AI _ _ _ _ | exact w5_AL _ _ _ _ | exact w5_SI (by omega) | exact w5_SL | intro _)
theorem w5_Mo_string_j86 (l1r : Nat) (l1 : Int32) (l2 : Int32) (l3 : Int32) (l4 : Int32) (l5 : Int32) (l7 : Int32) (k0 : Int32) : W5k (M_Mo_string_j86 l1r l1 l2 l3 l4 l5 l7 k0) := by
  unfold M_Mo_string_j86
  repeat' with_reducible (first | exact w5_R _ | intro _)
theorem w5_Mo_string_L46 (x) : W5k (M_Mo_string_L46 x) := by
  unfold M_Mo_string_L46
  repeat' with_reducible (first | apply w5_B | apply w5_C | exact w5_Mo_string_j86 _ _ _ _ _ _ _ _ | exact w5_R _ | exact w5_AI _ _ _ _ | intro _)
theorem w5_Mo_string_j94 (l1r : Nat) (l1 : Int32) (l2 : Int32) (l3 : Int32) (l4 : Int32) (l5 : Int32) (l6 : Int32) : W5k (M_Mo_string_j94 l1r l1 l2 l3 l4 l5 l6) := by
  unfold M_Mo_string_j94
  repeat' with_reducible (first | apply w5_B | apply w5_C | exact w5_R _ | exact w5_AI _ _ _ _ | apply w5_L | intro _)
theorem w5_Mo_string_j41 (l1r : Nat) (l1 : Int32) (l2 : Int32) (l3 : Int32) (l4 : Int32) (l5 : Int32) (k0 : Int32) : W5k (M_Mo_string_j41 l1r l1 l2 l3 l4 l5 k0) := by
  unfold M_Mo_string_j41
  repeat' with_reducible (first | apply w5_B | exact w5_Mo_string_L46 _ | exact w5_Mo_string_j94 _ _ _ _ _ _ _ | apply w5_W | intro _)
theorem w5_Mo_string_L20 (x) : W5k (M_Mo_string_L20 x) := by
  unfold M_Mo_string_L20
  repeat' with_reducible (first | apply w5_B | apply w5_C | exact w5_Mo_string_j41 _ _ _ _ _ _ _ | exact w5_R _ | exact w5_AI _ _ _ _ | intro _)
theorem w5_Mo_string (l1r : Nat) (l1 : Int32) (l2 : Int32) (l3 : Int32) : W5k (M_Mo_string l1r l1 l2 l3) := by
  unfold M_Mo_string
  repeat' with_reducible (first | apply w5_B | apply w5_C | exact w5_Mo_hash _ _ _ _ | exact w5_Mo_string_L20 _ | exact w5_Mo_may _ | exact w5_Mo_object _ | exact w5_Mo_raise _ | exact w5_R _ | exact w5_GI _ _ | exact w5_PI (by omega) | exact w5_AI _ _ _ _ | exact w5_SI (by omega) | exact w5_Pr _ _ | exact w5_CI (by omega) | apply w5_L | apply w5_W | apply w5_E | intro _)
theorem w5_Mo_say_ (l1 : Int32) (l2 : Int32) : W5k (M_Mo_say_ l1 l2) := by
  unfold M_Mo_say_
  repeat' with_reducible (first | apply w5_B | exact w5_R _ | exact w5_GI _ _ | exact w5_PI (by omega) | exact w5_CI (by omega) | intro _)
theorem w5_Mo_sub_j25  : W5k (M_Mo_sub_j25) := by
  unfold M_Mo_sub_j25
  repeat' with_reducible (first | apply w5_B | exact w5_Mo_raise _ | exact w5_R _ | intro _)
theorem w5_Mo_sub_j150 (k0 : Int32) : W5k (M_Mo_sub_j150 k0) := by
  unfold M_Mo_sub_j150
  repeat' with_reducible (first | apply w5_B | apply w5_C | exact w5_Mo_give _ _ | exact w5_R _ | intro _)
theorem w5_Mo_sub_j95 (l1 : Int32) (l2 : Int32) (l3 : Int64) (k0 : Int64) (k1 : Int64) : W5k (M_Mo_sub_j95 l1 l2 l3 k0 k1) := by
  unfold M_Mo_sub_j95
  repeat' with_reducible (first | apply w5_B | apply w5_C | exact w5_Mo_from _ _ | exact w5_Mth_min_ _ _ | exact w5_Mo_string _ _ _ _ | exact w5_Mo_sub_j150 _ | exact w5_AI _ _ _ _ | intro _)
theorem w5_Mo_sub_j65 (l1 : Int32) (l2 : Int32) (k0 : Int64) (k1 : Int64) : W5k (M_Mo_sub_j65 l1 l2 k0 k1) := by
  unfold M_Mo_sub_j65
  repeat' with_reducible (first | apply w5_B | apply w5_C | exact w5_Mo_from _ _ | exact w5_Mth_max_ _ _ | exact w5_Mo_is _ _ | exact w5_Mo_av _ | exact w5_Mo_sub_j95 _ _ _ _ _ | intro _)
theorem w5_Mo_sub  : W5k (M_Mo_sub) := by
  unfold M_Mo_sub
  repeat' with_reducible (first | apply w5_B | apply w5_C | exact w5_Mo_is _ _ | exact w5_Mo_sub_j25 | exact w5_Mo_integer _ | exact w5_Mo_av _ | exact w5_Mo_sub_j65 _ _ _ _ | exact w5_AI _ _ _ _ | intro _)
theorem w5_Mo_characters_L2 (x) : W5k (M_Mo_characters_L2 x) := by
  unfold M_Mo_characters_L2
  repeat' with_reducible (first | apply w5_B | apply w5_C | exact w5_Mo_is _ _ | exact w5_Mo_av _ | exact w5_R _ | exact w5_GI _ _ | exact w5_SI (by omega) | intro _)
theorem w5_Mo_characters_j51  : W5k (M_Mo_characters_j51) := by
  unfold M_Mo_characters_j51
  repeat' with_reducible (first | apply w5_B | exact w5_Mo_raise _ | exact w5_R _ | intro _)
theorem w5_Mo_characters  : W5k (M_Mo_characters) := by
  unfold M_Mo_characters
  repeat' with_reducible (first | apply w5_B | apply w5_C | exact w5_Mo_characters_L2 _ | exact w5_Mo_raise _ | exact w5_Mo_characters_j51 | exact w5_Mo_string _ _ _ _ | exact w5_Mo_give _ _ | exact w5_R _ | exact w5_GI _ _ | apply w5_W | apply w5_E | intro _)
theorem w5_Mo_word_L2 (x) : W5k (M_Mo_word_L2 x) := by
  unfold M_Mo_word_L2
  repeat' with_reducible (first | apply w5_B | apply w5_C | exact w5_R _ | exact w5_SI (by omega) | exact w5_K _ | intro _)
theorem w5_Mo_word (l1 : Nat) : W5k (M_Mo_word l1) := by
  unfold M_Mo_word
  repeat' with_reducible (first | apply w5_B | apply w5_C | exact w5_Mo_word_L2 _ | exact w5_Mo_string _ _ _ _ | exact w5_R _ | exact w5_SI (by omega) | apply w5_W | intro _)
theorem w5_Mo_say___L2 (x) : W5k (M_Mo_say___L2 x) := by
  unfold M_Mo_say___L2
  repeat' with_reducible (first | apply w5_B | apply w5_C | exact w5_Mo_say _ | exact w5_R _ | exact w5_K _ | intro _)
theorem w5_Mo_say__ (l1 : Nat) : W5k (M_Mo_say__ l1) := by
  unfold M_Mo_say__
  repeat' with_reducible (first | apply w5_B | exact w5_Mo_say___L2 _ | exact w5_R _ | apply w5_W | intro _)
theorem w5w_Mo_words_L2 (x) (h : (x.2.2.1 ≠ 39 ∧ x.2.2.1 ≠ 40 ∧ x.2.2.1 ≠ 41)) : W5k (oW M_Mo_words_L2 x) := by
  refine (w5p_W (I := fun x => (x.2.2.1 ≠ 39 ∧ x.2.2.1 ≠ 40 ∧ x.2.2.1 ≠ 41)) (J := fun _ => True) (fun x hx => ?_) _ h).k
  unfold M_Mo_words_L2
  exact w5p_C (w5p_R trivial) (w5p_B (w5_K _).p fun _ _ => w5p_B (w5_Mo_word _).p fun _ _ => w5p_B (w5_Pr _ _).p fun _ _ => w5p_B (w5_Pr _ _).p fun _ _ => w5p_B (w5_SI hx.2.2).p fun _ _ => w5p_B (w5_AI _ _ _ _).p fun _ _ => w5p_C (w5p_R hx) (w5p_R trivial))
theorem w5_Mo_words (l1r : Nat) (l1 : Int32) (l2r : Nat) (l2 : Int32) (h2 : (l2r ≠ 39 ∧ l2r ≠ 40 ∧ l2r ≠ 41)) : W5k (M_Mo_words l1r l1 l2r l2) := by
  unfold M_Mo_words
  repeat' with_reducible (first | apply w5_B | exact w5w_Mo_words_L2 _ (by dsimp only; omega) | exact w5_R _ | apply w5_W | apply w5_E | intro _)
theorem w5_Mo_sayValue_j145 (k0 : Int64) : W5k (M_Mo_sayValue_j145 k0) := by
  unfold M_Mo_sayValue_j145
  repeat' with_reducible (first | apply w5_B | exact w5_Mo_sayNumber _ | exact w5_R _ | intro _)
theorem w5_Mo_sayValue_j119 (l2 : Int64) (k0 : Nat) : W5k (M_Mo_sayValue_j119 l2 k0) := by
  unfold M_Mo_sayValue_j119
  repeat' with_reducible (first | apply w5_B | apply w5_C | exact w5_Mo_say__ _ | exact w5_Mo_sayValue_j145 _ | exact w5_AI _ _ _ _ | intro _)
theorem w5_Mo_sayValue_j166 (l2 : Int64) (k0 : Nat) : W5k (M_Mo_sayValue_j166 l2 k0) := by
  unfold M_Mo_sayValue_j166
  repeat' with_reducible (first | apply w5_B | exact w5_Mo_say__ _ | exact w5_Mo_sayNumber _ | exact w5_R _ | exact w5_AI _ _ _ _ | intro _)
theorem w5_Mo_sayValue (l1 : Int32) (l2 : Int64) : W5k (M_Mo_sayValue l1 l2) := by
  unfold M_Mo_sayValue
  repeat' with_reducible (first | apply w5_B | apply w5_C | exact w5_Mo_say__ _ | exact w5_Mo_sayNumber _ | exact w5_Mo_say_ _ _ | exact w5_Mo_sayValue_j119 _ _ | exact w5_Mo_sayValue_j166 _ _ | exact w5_R _ | exact w5_AI _ _ _ _ | intro _)
theorem w5_Mo_tostring_j141  : W5k (M_Mo_tostring_j141) := by
  unfold M_Mo_tostring_j141
  repeat' with_reducible (first | apply w5_B | exact w5_R _ | exact w5_PI (by omega) | intro _)
theorem w5_Mo_tostring  : W5k (M_Mo_tostring) := by
  unfold M_Mo_tostring
  repeat' with_reducible (first | apply w5_B | apply w5_C | exact w5_Mo_ak _ | exact w5_Mo_av _ | exact w5_Mo_meta _ _ _ | exact w5_Mo_give _ _ | exact w5_Mo_tostring_j141 | exact w5_Mo_sayValue _ _ | exact w5_Mo_string _ _ _ _ | exact w5_Va_add _ _ _ _ (by omega) | exact w5_Mo_push _ _ | exact w5_R _ | exact w5_GI _ _ | exact w5_GL _ _ | exact w5_PI (by omega) | exact w5_PL | intro _)
theorem w5_Mo_join_j245 (l1 : Int32) (l2 : Int32) (l7 : Int32) (l8 : Int32) (l12 : Int32) (l17 : Int32) (k0 : Int32) : W5k (M_Mo_join_j245 l1 l2 l7 l8 l12 l17 k0) := by
  unfold M_Mo_join_j245
  repeat' with_reducible (first | apply w5_B | apply w5_C | exact w5_R _ | exact w5_PI (by omega) | intro _)
theorem w5_Mo_join_j158 (l1 : Int32) (l2 : Int32) (l7 : Int32) (l8 : Int32) (l9 : Int32) (l10 : Int64) (l12 : Int32) (l13 : Int32) (l14 : Int64) (k0 : Int32) (k1 : Int32) : W5k (M_Mo_join_j158 l1 l2 l7 l8 l9 l10 l12 l13 l14 k0 k1) := by
  unfold M_Mo_join_j158
  repeat' with_reducible (first | apply w5_B | apply w5_C | exact w5_Mo_sayValue _ _ | exact w5_Va_add _ _ _ _ (by omega) | exact w5_Mo_string _ _ _ _ | exact w5_Mo_join_j245 _ _ _ _ _ _ _ | exact w5_Mo_raise _ | exact w5_R _ | exact w5_GI _ _ | apply w5_L | intro _)
theorem w5_Mo_join_j139 (l1 : Int32) (l2 : Int32) (l7 : Int32) (l8 : Int32) (l9 : Int32) (l10 : Int64) (l12 : Int32) (l13 : Int32) (l14 : Int64) (k0 : Int32) : W5k (M_Mo_join_j139 l1 l2 l7 l8 l9 l10 l12 l13 l14 k0) := by
  unfold M_Mo_join_j139
  repeat' with_reducible (first | apply w5_B | apply w5_C | exact w5_Mo_join_j158 _ _ _ _ _ _ _ _ _ _ _ | exact w5_AI _ _ _ _ | intro _)
theorem w5_Mo_join_j115 (l1 : Int32) (l2 : Int32) (l7 : Int32) (l8 : Int32) (l9 : Int32) (l10 : Int64) (l12 : Int32) (l13 : Int32) (l14 : Int64) : W5k (M_Mo_join_j115 l1 l2 l7 l8 l9 l10 l12 l13 l14) := by
  unfold M_Mo_join_j115
  repeat' with_reducible (first | apply w5_B | apply w5_C | exact w5_Mo_join_j139 _ _ _ _ _ _ _ _ _ _ | exact w5_PI (by omega) | exact w5_AI _ _ _ _ | intro _)
theorem w5_Mo_join_j103 (l1 : Int32) (l2 : Int32) (l7 : Int32) (l8 : Int32) (l9 : Int32) (l10 : Int64) (l12 : Int32) (l13 : Int32) (l14 : Int64) : W5k (M_Mo_join_j103 l1 l2 l7 l8 l9 l10 l12 l13 l14) := by
  unfold M_Mo_join_j103
  repeat' with_reducible (first | apply w5_C | exact w5_Mo_join_j115 _ _ _ _ _ _ _ _ _ | exact w5_R _ | intro _)
theorem w5_Mo_join_L51 (x) : W5k (M_Mo_join_L51 x) := by
  unfold M_Mo_join_L51
  repeat' with_reducible (first | apply w5_B | apply w5_C | exact w5_Mo_b _ | exact w5_Mo_join_j103 _ _ _ _ _ _ _ _ _ | exact w5_R _ | exact w5_AI _ _ _ _ | exact w5_AL _ _ _ _ | intro _)
theorem w5_Mo_join_j273 (l1 : Int32) (l2 : Int32) (l7 : Int32) (l9 : Int32) (l10 : Int64) (l12 : Int32) (l13 : Int32) (l14 : Int64) : W5k (M_Mo_join_j273 l1 l2 l7 l9 l10 l12 l13 l14) := by
  unfold M_Mo_join_j273
  repeat' with_reducible (first | apply w5_B | apply w5_C | exact w5_Mo_a _ | exact w5_Mo_expect _ _ _ | exact w5_Mo_either _ _ _ _ _ | exact w5_Mo_raise _ | exact w5_R _ | exact w5_SI (by omega) | intro _)
