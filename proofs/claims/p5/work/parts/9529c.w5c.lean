/-! Made by wip/l4/w5gen.py: the fault and the tape stay. -/
theorem w5_Mo_close_L5 (x) : W5k (M_Mo_close_L5 x) := by
  unfold M_Mo_close_L5
  repeat' with_reducible (first | apply w5_B | apply w5_C | exact w5_Mo_close_j54 _ _ _ _ | exact w5_Mo_closeVariable _ | exact w5_R _ | exact w5_GI _ _ | exact w5_AI _ _ _ _ | exact w5_SI (by omega) | intro _)
theorem w5_Mo_close (l1 : Int32) (l2 : Int32) : W5k (M_Mo_close l1 l2) := by
  unfold M_Mo_close
  repeat' with_reducible (first | apply w5_B | exact w5_Mo_close_L5 _ | exact w5_R _ | exact w5_PI (by omega) | apply w5_W | intro _)
theorem w5_Mo_constant (l1 : Int32) (l2 : Int32) : W5k (M_Mo_constant l1 l2) := by
  unfold M_Mo_constant
  repeat' with_reducible (first | apply w5_B | exact w5_R _ | exact w5_PI (by omega) | exact w5_PL | exact w5_AI _ _ _ _ | exact w5_AL _ _ _ _ | apply w5_L | intro _)
theorem w5_Mo_up (l1 : Int32) (l2 : Int32) (l3 : Int32) : W5k (M_Mo_up l1 l2 l3) := by
  unfold M_Mo_up
  repeat' with_reducible (first | apply w5_B | exact w5_R _ | exact w5_GI _ _ | exact w5_AI _ _ _ _ | exact w5_K _ | intro _)
theorem w5_Mo_rk_ (l1 : Int32) (l2 : Int32) (l3 : Int32) (l4 : Int32) : W5k (M_Mo_rk_ l1 l2 l3 l4) := by
  unfold M_Mo_rk_
  repeat' with_reducible (first | apply w5_B | apply w5_C | exact w5_Mo_constant _ _ | exact w5_R _ | exact w5_PI (by omega) | exact w5_PL | exact w5_AI _ _ _ _ | exact w5_AL _ _ _ _ | intro _)
theorem w5_Mo_callGot  : W5k (M_Mo_callGot) := by
  unfold M_Mo_callGot
  repeat' with_reducible (first | apply w5_B | exact w5_R _ | exact w5_GI _ _ | exact w5_GL _ _ | exact w5_PI (by omega) | exact w5_PL | intro _)
theorem w5_Mo_store (l1 : Int32) (l2 : Int32) (l3 : Int64) : W5k (M_Mo_store l1 l2 l3) := by
  unfold M_Mo_store
  repeat' with_reducible (first | apply w5_B | apply w5_C | exact w5_Va_set _ _ _ _ _ (by omega) | exact w5_R _ | exact w5_AI _ _ _ _ | exact w5_K _ | intro _)
theorem w5_Mo_eventOf (l0 : Int32) : W5k (M_Mo_eventOf l0) := by
  unfold M_Mo_eventOf
  repeat' with_reducible (first | apply w5_C | exact w5_R _ | intro _)
theorem w5_Mo_shifted (l0 : Int64) (l2 : Int64) : W5k (M_Mo_shifted l0 l2) := by
  unfold M_Mo_shifted
  repeat' with_reducible (first | apply w5_C | exact w5_R _ | intro _)
theorem w5_Mo_truth (l0 : Int32) : W5k (M_Mo_truth l0) := by
  unfold M_Mo_truth
  repeat' with_reducible (first | apply w5_C | exact w5_R _ | intro _)
theorem w5_Mo_order_L19 (x) : W5k (M_Mo_order_L19 x) := by
  unfold M_Mo_order_L19
  repeat' with_reducible (first | apply w5_B | apply w5_C | exact w5_R _ | exact w5_AI _ _ _ _ | apply w5_L | intro _)
theorem w5_Mo_order (l1 : Int32) (l2 : Int32) : W5k (M_Mo_order l1 l2) := by
  unfold M_Mo_order
  repeat' with_reducible (first | apply w5_B | exact w5_Mth_min _ _ | exact w5_Mo_order_L19 _ | exact w5_R _ | exact w5_AI _ _ _ _ | apply w5_W | apply w5_E | intro _)
theorem w5_Mo_addAt_j36 (l1r : Nat) (l1 : Int32) (l2 : Int32) (l3 : Int32) (l5 : Int32) (h0 : (l1r ≠ 39 ∧ l1r ≠ 40 ∧ l1r ≠ 41)) : W5k (M_Mo_addAt_j36 l1r l1 l2 l3 l5) := by
  unfold M_Mo_addAt_j36
  repeat' with_reducible (first | apply w5_B | exact w5_Va_add_ _ _ _ _ _ (by omega) | exact w5_R _ | exact w5_AI _ _ _ _ | intro _)
theorem w5_Mo_addAt (l1r : Nat) (l1 : Int32) (l2 : Int32) (l3 : Int32) (l4 : Int32) (l5 : Int32) (h0 : (l1r ≠ 39 ∧ l1r ≠ 40 ∧ l1r ≠ 41)) : W5k (M_Mo_addAt l1r l1 l2 l3 l4 l5) := by
  unfold M_Mo_addAt
  repeat' with_reducible (first | apply w5_B | apply w5_C | exact w5_Mo_addAt_j36 _ _ _ _ _ (by omega) | exact w5_Va_add_ _ _ _ _ _ (by omega) | exact w5_R _ | exact w5_AI _ _ _ _ | intro _)
theorem w5_Mo_loop_j40  : W5k (M_Mo_loop_j40) := by
  unfold M_Mo_loop_j40
  repeat' with_reducible (first | apply w5_B | exact w5_Mo_raise _ | exact w5_R _ | intro _)
theorem w5_Mo_loop_j140 (l1 : Int32) (l2 : Int32) (l3 : Int32) (l4r : Nat) (l4 : Int32) (l5 : Int32) (k0 : Int32) (h3 : (l4r ≠ 39 ∧ l4r ≠ 40 ∧ l4r ≠ 41)) : W5k (M_Mo_loop_j140 l1 l2 l3 l4r l4 l5 k0) := by
  unfold M_Mo_loop_j140
  repeat' with_reducible (first | apply w5_B | apply w5_C | exact w5_Mo_sbx _ | exact w5_Va_set_ _ _ _ _ _ _ (by omega) | exact w5_R _ | exact w5_AI _ _ _ _ | exact w5_SI (by omega) | intro _)
theorem w5_Mo_loop (l1 : Int32) (l2 : Int32) (l3 : Int32) (l4r : Nat) (l4 : Int32) (l5 : Int32) (h3 : (l4r ≠ 39 ∧ l4r ≠ 40 ∧ l4r ≠ 41)) : W5k (M_Mo_loop l1 l2 l3 l4r l4 l5) := by
  unfold M_Mo_loop
  repeat' with_reducible (first | apply w5_B | apply w5_C | exact w5_Mo_loop_j140 _ _ _ _ _ _ _ (by omega) | exact w5_Mo_loop_j40 | exact w5_AI _ _ _ _ | exact w5_AL _ _ _ _ | exact w5_SL | intro _)
theorem w5_Mo_thread_L2 (x) : W5k (M_Mo_thread_L2 x) := by
  unfold M_Mo_thread_L2
  repeat' with_reducible (first | apply w5_B | apply w5_C | exact w5_R _ | exact w5_K _ | intro _)
theorem w5_Mo_thread (l1 : Int32) : W5k (M_Mo_thread l1) := by
  unfold M_Mo_thread
  repeat' with_reducible (first | apply w5_B | exact w5_Mo_thread_L2 _ | exact w5_R _ | apply w5_W | intro _)
theorem w5_Mo_further_j160 (l1 : Int32) (l2 : Int32) (l5r : Nat) (l5 : Int32) (l6 : Int32) (l7 : Int32) (l8 : Int32) (l9 : Int32) : W5k (M_Mo_further_j160 l1 l2 l5r l5 l6 l7 l8 l9) := by
  unfold M_Mo_further_j160
  repeat' with_reducible (first | exact w5_R _ | intro _)
theorem w5w_Mo_further_L110 (x) (h : (x.2.2.1 ≠ 39 ∧ x.2.2.1 ≠ 40 ∧ x.2.2.1 ≠ 41)) : W5k (oW M_Mo_further_L110 x) := by
  refine (w5p_W (I := fun x => (x.2.2.1 ≠ 39 ∧ x.2.2.1 ≠ 40 ∧ x.2.2.1 ≠ 41)) (J := fun _ => True) (fun x hx => ?_) _ h).k
  unfold M_Mo_further_L110 M_Mo_further_j160
  exact w5p_C (w5p_R trivial) (w5p_B (w5_AI _ _ _ _).p fun _ _ => w5p_C (w5p_B (w5_Va_set _ _ _ _ _ hx).p fun _ _ => w5p_R hx) (w5p_B (w5_Va_set_ _ _ _ _ _ _ hx).p fun _ _ => w5p_R hx))
theorem w5_Mo_further_L60 (x) : W5k (M_Mo_further_L60 x) := by
  unfold M_Mo_further_L60
  repeat' with_reducible (first | apply w5_B | apply w5_C | exact w5_Va_add_ _ _ _ _ _ (by omega) | exact w5_R _ | intro _)
theorem w5_Mo_further_j24 (l1 : Int32) (l2 : Int32) (l4 : Int32) (l5r : Nat) (l5 : Int32) (l6 : Int32) (k0 : Int32) (h3 : (l5r ≠ 39 ∧ l5r ≠ 40 ∧ l5r ≠ 41)) : W5k (M_Mo_further_j24 l1 l2 l4 l5r l5 l6 k0) := by
  unfold M_Mo_further_j24
  repeat' with_reducible (first | apply w5_B | apply w5_C | exact w5w_Mo_further_L110 _ (by dsimp only; omega) | exact w5_Mo_b _ | exact w5_Mo_further_L60 _ | exact w5_Mo_a _ | exact w5_R _ | exact w5_PI (by omega) | exact w5_AI _ _ _ _ | exact w5_SI (by omega) | apply w5_L | apply w5_W | intro _)
theorem w5_Mo_further (l1 : Int32) (l2 : Int32) (l3 : Int32) (l4 : Int32) (l5r : Nat) (l5 : Int32) (l6 : Int32) (h4 : (l5r ≠ 39 ∧ l5r ≠ 40 ∧ l5r ≠ 41)) : W5k (M_Mo_further l1 l2 l3 l4 l5r l5 l6) := by
  unfold M_Mo_further
  repeat' with_reducible (first | apply w5_B | apply w5_C | exact w5_Mo_b _ | exact w5_Mo_further_j24 _ _ _ _ _ _ _ (by omega) | exact w5_AI _ _ _ _ | intro _)
theorem w5_Mo_none_j34 (k0 : Int32) (k1 : Int32) : W5k (M_Mo_none_j34 k0 k1) := by
  unfold M_Mo_none_j34
  repeat' with_reducible (first | apply w5_B | exact w5_Mo_refuse _ _ | exact w5_R _ | exact w5_K _ | intro _)
theorem w5_Mo_none_j29 (k0 : Int32) : W5k (M_Mo_none_j29 k0) := by
  unfold M_Mo_none_j29
  repeat' with_reducible (first | exact w5_Mo_none_j34 _ _ | intro _)
theorem w5_Mo_none (l1 : Int32) : W5k (M_Mo_none l1) := by
  unfold M_Mo_none
  repeat' with_reducible (first | apply w5_B | apply w5_C | exact w5_Mo_none_j29 _ | exact w5_Mo_none_j34 _ _ | exact w5_GI _ _ | exact w5_PI (by omega) | intro _)
theorem w5_Mo_value (l1 : Int32) : W5k (M_Mo_value l1) := by
  unfold M_Mo_value
  repeat' with_reducible (first | apply w5_B | apply w5_C | exact w5_Mo_none _ | exact w5_R _ | exact w5_AI _ _ _ _ | exact w5_AL _ _ _ _ | intro _)
theorem w5_Mo_byteOf__j53 (l1 : Int32) (l2 : Int32) (k0 : Int32) (k1 : Int32) : W5k (M_Mo_byteOf__j53 l1 l2 k0 k1) := by
  unfold M_Mo_byteOf__j53
  repeat' with_reducible (first | apply w5_B | apply w5_C | exact w5_Mo_refuse _ _ | exact w5_R _ | exact w5_AI _ _ _ _ | exact w5_AL _ _ _ _ | intro _)
theorem w5_Mo_byteOf__j48 (l1 : Int32) (l2 : Int32) (k0 : Int32) : W5k (M_Mo_byteOf__j48 l1 l2 k0) := by
  unfold M_Mo_byteOf__j48
  repeat' with_reducible (first | exact w5_Mo_byteOf__j53 _ _ _ _ | intro _)
theorem w5_Mo_byteOf_ (l1 : Int32) (l2 : Int32) : W5k (M_Mo_byteOf_ l1 l2) := by
  unfold M_Mo_byteOf_
  repeat' with_reducible (first | apply w5_B | apply w5_C | exact w5_Mo_none _ | exact w5_Mo_byteOf__j48 _ _ _ | exact w5_Mo_byteOf__j53 _ _ _ _ | exact w5_R _ | exact w5_AI _ _ _ _ | exact w5_AL _ _ _ _ | intro _)
theorem w5_Mo_output_j31 (l1 : Int32) (k0 : Int32) (k1 : Int32) : W5k (M_Mo_output_j31 l1 k0 k1) := by
  unfold M_Mo_output_j31
  repeat' with_reducible (first | apply w5_B | apply w5_C | exact w5_Mo_refuse _ _ | exact w5_R _ | exact w5_AI _ _ _ _ | intro _)
theorem w5_Mo_output_j26 (l1 : Int32) (k0 : Int32) : W5k (M_Mo_output_j26 l1 k0) := by
  unfold M_Mo_output_j26
  repeat' with_reducible (first | exact w5_Mo_output_j31 _ _ _ | intro _)
theorem w5_Mo_output (l1 : Int32) : W5k (M_Mo_output l1) := by
  unfold M_Mo_output
  repeat' with_reducible (first | apply w5_B | apply w5_C | exact w5_Mo_output_j26 _ _ | exact w5_Mo_output_j31 _ _ _ | exact w5_GI _ _ | exact w5_PI (by omega) | intro _)
theorem w5_Mo_count (l1 : Int32) : W5k (M_Mo_count l1) := by
  unfold M_Mo_count
  repeat' with_reducible (first | apply w5_B | apply w5_C | exact w5_R _ | exact w5_GI _ _ | exact w5_GL _ _ | exact w5_PI (by omega) | exact w5_K _ | intro _)
theorem w5_Mo_readConstants_j213 (l2 : Int32) (l3 : Int32) : W5k (M_Mo_readConstants_j213 l2 l3) := by
  unfold M_Mo_readConstants_j213
  repeat' with_reducible (first | exact w5_R _ | intro _)
theorem w5_Mo_readConstants_j184 (l2 : Int32) (l3 : Int32) (l4 : Int32) (l5 : Int64) : W5k (M_Mo_readConstants_j184 l2 l3 l4 l5) := by
  unfold M_Mo_readConstants_j184
  repeat' with_reducible (first | apply w5_B | apply w5_C | exact w5_Va_set _ _ _ _ _ (by omega) | exact w5_Mo_readConstants_j213 _ _ | exact w5_GI _ _ | exact w5_PI (by omega) | intro _)
theorem w5_Mo_readConstants_j173 (l2 : Int32) (l3 : Int32) (l4 : Int32) (l5 : Int64) (l7 : Int32) : W5k (M_Mo_readConstants_j173 l2 l3 l4 l5 l7) := by
  unfold M_Mo_readConstants_j173
  repeat' with_reducible (first | apply w5_B | exact w5_Mo_readConstants_j184 _ _ _ _ | exact w5_GI _ _ | exact w5_PI (by omega) | intro _)
theorem w5_Mo_makes_j36  : W5k (M_Mo_makes_j36) := by
  unfold M_Mo_makes_j36
  repeat' with_reducible (first | exact w5_R _ | intro _)
theorem w5_Mo_makes_j32  : W5k (M_Mo_makes_j32) := by
  unfold M_Mo_makes_j32
  repeat' with_reducible (first | exact w5_R _ | intro _)
theorem w5_Mo_makes_j16 (l0 : Int32) : W5k (M_Mo_makes_j16 l0) := by
  unfold M_Mo_makes_j16
  repeat' with_reducible (first | apply w5_B | apply w5_C | exact w5_Mo_op _ | exact w5_Mo_b _ | exact w5_Mo_makes_j32 | exact w5_Mo_makes_j36 | intro _)
theorem w5_Mo_makes (l0 : Int32) : W5k (M_Mo_makes l0) := by
  unfold M_Mo_makes
  repeat' with_reducible (first | apply w5_B | apply w5_C | exact w5_Mo_op _ | exact w5_Mo_c _ | exact w5_Mo_makes_j32 | exact w5_Mo_makes_j16 _ | intro _)
theorem w5_Mo_named_j242  : W5k (M_Mo_named_j242) := by
  unfold M_Mo_named_j242
  repeat' with_reducible (first | exact w5_R _ | intro _)
theorem w5_Mo_named_j270  : W5k (M_Mo_named_j270) := by
  unfold M_Mo_named_j270
  repeat' with_reducible (first | exact w5_R _ | intro _)
theorem w5_Mo_named_j300  : W5k (M_Mo_named_j300) := by
  unfold M_Mo_named_j300
  repeat' with_reducible (first | exact w5_R _ | intro _)
theorem w5_Mo_named_j296  : W5k (M_Mo_named_j296) := by
  unfold M_Mo_named_j296
  repeat' with_reducible (first | exact w5_R _ | intro _)
theorem w5_Mo_named_j336  : W5k (M_Mo_named_j336) := by
  unfold M_Mo_named_j336
  repeat' with_reducible (first | exact w5_R _ | intro _)
theorem w5_Mo_named_j371  : W5k (M_Mo_named_j371) := by
  unfold M_Mo_named_j371
  repeat' with_reducible (first | exact w5_R _ | intro _)
theorem w5_Mo_named_j404  : W5k (M_Mo_named_j404) := by
  unfold M_Mo_named_j404
  repeat' with_reducible (first | exact w5_R _ | intro _)
theorem w5_Mo_named_j439  : W5k (M_Mo_named_j439) := by
  unfold M_Mo_named_j439
  repeat' with_reducible (first | exact w5_R _ | intro _)
theorem w5_Mo_named_j472  : W5k (M_Mo_named_j472) := by
  unfold M_Mo_named_j472
  repeat' with_reducible (first | exact w5_R _ | intro _)
theorem w5_Mo_named_j514  : W5k (M_Mo_named_j514) := by
  unfold M_Mo_named_j514
  repeat' with_reducible (first | exact w5_R _ | intro _)
theorem w5_Mo_named_j547  : W5k (M_Mo_named_j547) := by
  unfold M_Mo_named_j547
  repeat' with_reducible (first | exact w5_R _ | intro _)
theorem w5_Mo_named_j578  : W5k (M_Mo_named_j578) := by
  unfold M_Mo_named_j578
  repeat' with_reducible (first | exact w5_R _ | intro _)
theorem w5_Mo_named_j615  : W5k (M_Mo_named_j615) := by
  unfold M_Mo_named_j615
  repeat' with_reducible (first | exact w5_R _ | intro _)
theorem w5_Mo_named_j596 (l2 : Int32) (l3 : Int32) : W5k (M_Mo_named_j596 l2 l3) := by
  unfold M_Mo_named_j596
  repeat' with_reducible (first | apply w5_B | apply w5_C | exact w5_Mo_sbx _ | exact w5_Mo_goes _ | exact w5_Mo_named_j615 | exact w5_R _ | intro _)
theorem w5_Mo_named_j645  : W5k (M_Mo_named_j645) := by
  unfold M_Mo_named_j645
  repeat' with_reducible (first | exact w5_R _ | intro _)
theorem w5_Mo_named_j666  : W5k (M_Mo_named_j666) := by
  unfold M_Mo_named_j666
  repeat' with_reducible (first | exact w5_R _ | intro _)
theorem w5_Mo_named_j696  : W5k (M_Mo_named_j696) := by
  unfold M_Mo_named_j696
  repeat' with_reducible (first | exact w5_R _ | intro _)
theorem w5_Mo_named_j750  : W5k (M_Mo_named_j750) := by
  unfold M_Mo_named_j750
  repeat' with_reducible (first | exact w5_R _ | intro _)
theorem w5_Mo_named_j746  : W5k (M_Mo_named_j746) := by
  unfold M_Mo_named_j746
  repeat' with_reducible (first | exact w5_R _ | intro _)
theorem w5_Mo_named_j726 (l5 : Int32) (l7 : Int32) : W5k (M_Mo_named_j726 l5 l7) := by
  unfold M_Mo_named_j726
  repeat' with_reducible (first | apply w5_B | apply w5_C | exact w5_Mo_named_j746 | exact w5_Mo_reg _ | exact w5_Mo_named_j750 | intro _)
theorem w5_Mo_named_j784  : W5k (M_Mo_named_j784) := by
  unfold M_Mo_named_j784
  repeat' with_reducible (first | exact w5_R _ | intro _)
theorem w5_Mo_named_j780  : W5k (M_Mo_named_j780) := by
  unfold M_Mo_named_j780
  repeat' with_reducible (first | exact w5_R _ | intro _)
theorem w5_Mo_named_j819  : W5k (M_Mo_named_j819) := by
  unfold M_Mo_named_j819
  repeat' with_reducible (first | exact w5_R _ | intro _)
theorem w5_Mo_named_j815  : W5k (M_Mo_named_j815) := by
  unfold M_Mo_named_j815
  repeat' with_reducible (first | exact w5_R _ | intro _)
theorem w5_Mo_named_j851  : W5k (M_Mo_named_j851) := by
  unfold M_Mo_named_j851
  repeat' with_reducible (first | exact w5_R _ | intro _)
theorem w5_Mo_named_j883  : W5k (M_Mo_named_j883) := by
  unfold M_Mo_named_j883
  repeat' with_reducible (first | exact w5_R _ | intro _)
theorem w5_Mo_named_j908  : W5k (M_Mo_named_j908) := by
  unfold M_Mo_named_j908
  repeat' with_reducible (first | exact w5_R _ | intro _)
theorem w5_Mo_named_j940  : W5k (M_Mo_named_j940) := by
  unfold M_Mo_named_j940
  repeat' with_reducible (first | exact w5_R _ | intro _)
theorem w5_Mo_named_j977  : W5k (M_Mo_named_j977) := by
  unfold M_Mo_named_j977
  repeat' with_reducible (first | exact w5_R _ | intro _)
theorem w5_Mo_named_j973  : W5k (M_Mo_named_j973) := by
  unfold M_Mo_named_j973
  repeat' with_reducible (first | exact w5_R _ | intro _)
theorem w5_Mo_named_j1005  : W5k (M_Mo_named_j1005) := by
  unfold M_Mo_named_j1005
  repeat' with_reducible (first | exact w5_R _ | intro _)
theorem w5_Mo_named_j1040  : W5k (M_Mo_named_j1040) := by
  unfold M_Mo_named_j1040
  repeat' with_reducible (first | exact w5_R _ | intro _)
theorem w5_Mo_named_j1036  : W5k (M_Mo_named_j1036) := by
  unfold M_Mo_named_j1036
  repeat' with_reducible (first | exact w5_R _ | intro _)
theorem w5_Mo_named (l1 : Int32) (l2 : Int32) (l3 : Int32) (l4 : Int32) : W5k (M_Mo_named l1 l2 l3 l4) := by
  unfold M_Mo_named
  repeat' with_reducible (first | apply w5_B | apply w5_C | exact w5_Mo_a _ | exact w5_Mo_b _ | exact w5_Mo_c _ | exact w5_Mo_reg _ | exact w5_Mo_named_j242 | exact w5_Mo_named_j270 | exact w5_Mo_bx _ | exact w5_Mo_named_j300 | exact w5_Mo_named_j296 | exact w5_Mo_goes _ | exact w5_Mo_named_j336 | exact w5_Mo_named_j371 | exact w5_Mo_rk _ | exact w5_Mo_named_j404 | exact w5_Mo_named_j439 | exact w5_Mo_named_j472 | exact w5_Mo_named_j514 | exact w5_Mo_named_j547 | exact w5_Mo_named_j578 | exact w5_Mo_named_j596 _ _ | exact w5_Mo_named_j615 | exact w5_Mo_named_j645 | exact w5_Mo_named_j666 | exact w5_Mo_named_j696 | exact w5_Mo_named_j750 | exact w5_Mo_named_j726 _ _ | exact w5_Mo_named_j784 | exact w5_Mo_named_j780 | exact w5_Mo_named_j819 | exact w5_Mo_named_j815 | exact w5_Mo_named_j851 | exact w5_Mo_sbx _ | exact w5_Mo_named_j883 | exact w5_Mo_named_j908 | exact w5_Mo_named_j940 | exact w5_Mo_named_j977 | exact w5_Mo_named_j973 | exact w5_Mo_named_j1005 | exact w5_Mo_named_j1040 | exact w5_Mo_named_j1036 | exact w5_R _ | exact w5_AI _ _ _ _ | exact w5_K _ | intro _)
theorem w5_Mo_markRow_L3 (x) : W5k (M_Mo_markRow_L3 x) := by
  unfold M_Mo_markRow_L3
  repeat' with_reducible (first | apply w5_B | apply w5_C | exact w5_Mo_mark _ _ | exact w5_R _ | exact w5_AI _ _ _ _ | exact w5_AL _ _ _ _ | intro _)
theorem w5_Mo_markRow (l1r : Nat) (l1 : Int32) (l2 : Int32) (l3 : Int32) : W5k (M_Mo_markRow l1r l1 l2 l3) := by
  unfold M_Mo_markRow
  repeat' with_reducible (first | apply w5_B | exact w5_Mo_markRow_L3 _ | exact w5_R _ | apply w5_W | intro _)
theorem w5_Th_reach_j126 (l0 : Int32) (l2 : Int32) : W5k (M_Th_reach_j126 l0 l2) := by
  unfold M_Th_reach_j126
  repeat' with_reducible (first | exact w5_R _ | intro _)
theorem w5_Th_reach_j45 (l0 : Int32) (l2 : Int32) : W5k (M_Th_reach_j45 l0 l2) := by
  unfold M_Th_reach_j45
  repeat' with_reducible (first | apply w5_B | apply w5_C | exact w5_Mo_markRow _ _ _ _ | exact w5_Th_reach_j126 _ _ | exact w5_GI _ _ | exact w5_AI _ _ _ _ | intro _)
theorem w5_Th_reach_L18 (x) : W5k (M_Th_reach_L18 x) := by
  unfold M_Th_reach_L18
  repeat' with_reducible (first | apply w5_B | apply w5_C | exact w5_Th_reach_j45 _ _ | exact w5_Mo_place _ | exact w5_R _ | exact w5_GI _ _ | exact w5_AI _ _ _ _ | intro _)
theorem w5_Th_reach_L134 (x) : W5k (M_Th_reach_L134 x) := by
  unfold M_Th_reach_L134
  repeat' with_reducible (first | apply w5_B | apply w5_C | exact w5_Mo_place _ | exact w5_R _ | exact w5_GI _ _ | exact w5_AI _ _ _ _ | intro _)
theorem w5_Th_reach (l0 : Int32) : W5k (M_Th_reach l0) := by
  unfold M_Th_reach
  repeat' with_reducible (first | apply w5_B | exact w5_Mo_markRow _ _ _ _ | exact w5_Th_reach_L18 _ | exact w5_Th_reach_L134 _ | exact w5_R _ | exact w5_GI _ _ | apply w5_W | intro _)
theorem w5_Mo_threadGoes_L2 (x) : W5k (M_Mo_threadGoes_L2 x) := by
  unfold M_Mo_threadGoes_L2
  repeat' with_reducible (first | apply w5_B | apply w5_C | exact w5_Mo_closeVariable _ | exact w5_R _ | exact w5_GI _ _ | exact w5_AI _ _ _ _ | intro _)
theorem w5_Mo_threadGoes (l1 : Int32) : W5k (M_Mo_threadGoes l1) := by
  unfold M_Mo_threadGoes
  repeat' with_reducible (first | apply w5_B | exact w5_Mo_threadGoes_L2 _ | exact w5_R _ | exact w5_GI _ _ | exact w5_PI (by omega) | apply w5_W | intro _)
theorem w5_Mo_unchain_L48 (x) : W5k (M_Mo_unchain_L48 x) := by
  unfold M_Mo_unchain_L48
  repeat' with_reducible (first | apply w5_B | apply w5_C | exact w5_R _ | exact w5_AI _ _ _ _ | apply w5_L | intro _)
theorem w5_Mo_unchain (l1 : Int32) : W5k (M_Mo_unchain l1) := by
  unfold M_Mo_unchain
  repeat' with_reducible (first | apply w5_B | apply w5_C | exact w5_Mo_hash _ _ _ _ | exact w5_Mo_unchain_L48 _ | exact w5_R _ | exact w5_AI _ _ _ _ | exact w5_SI (by omega) | apply w5_L | apply w5_W | intro _)
theorem w5_Mo_entry_j91 (l1 : Int32) (l2 : Int32) (l3 : Int64) (l5 : Int32) : W5k (M_Mo_entry_j91 l1 l2 l3 l5) := by
  unfold M_Mo_entry_j91
  repeat' with_reducible (first | apply w5_B | exact w5_R _ | exact w5_GI _ _ | exact w5_AI _ _ _ _ | exact w5_K _ | apply w5_L | intro _)
theorem w5_Mo_entry_L39 (x) : W5k (M_Mo_entry_L39 x) := by
  unfold M_Mo_entry_L39
  repeat' with_reducible (first | apply w5_B | apply w5_C | exact w5_Mo_entry_j91 _ _ _ _ | exact w5_R _ | exact w5_GI _ _ | exact w5_AI _ _ _ _ | exact w5_AL _ _ _ _ | exact w5_K _ | intro _)
theorem w5_Mo_entry (l1 : Int32) (l2 : Int32) (l3 : Int64) : W5k (M_Mo_entry l1 l2 l3) := by
  unfold M_Mo_entry
  repeat' with_reducible (first | apply w5_B | apply w5_C | exact w5_Mo_slot _ _ _ | exact w5_Mo_entry_L39 _ | exact w5_R _ | exact w5_GI _ _ | exact w5_AI _ _ _ _ | exact w5_K _ | exact w5_Pr _ _ | apply w5_L | apply w5_W | apply w5_E | intro _)
