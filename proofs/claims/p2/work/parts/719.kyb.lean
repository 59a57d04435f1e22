/-! Made by wip/l2n/ygen.py: the reference's programs leave the class's state alone. -/
theorem yk_Mo_state  : Yk (M_Mo_state) := by
  unfold M_Mo_state
  repeat' with_reducible (first | apply yk_B | apply yk_C | exact yk_Mo_is _ _ | exact yk_Mo_raise _ | exact yk_Mo_av _ | exact yk_Mo_give _ _ | exact yk_R _ | exact yk_GI _ _ | exact yk_AI _ _ _ _ | exact yk_K _ | intro _)
theorem yk_Mo_running_j36 (k0 : Int32) : Yk (M_Mo_running_j36 k0) := by
  unfold M_Mo_running_j36
  repeat' with_reducible (first | apply yk_B | exact yk_Va_add _ _ _ _ (by omega) | exact yk_R _ | intro _)
theorem yk_Mo_running  : Yk (M_Mo_running) := by
  unfold M_Mo_running
  repeat' with_reducible (first | apply yk_B | apply yk_C | exact yk_Mo_give _ _ | exact yk_Mo_running_j36 _ | exact yk_GI _ _ | exact yk_K _ | intro _)
theorem yk_Mo_finished_L35 (x) : Yk (M_Mo_finished_L35 x) := by
  unfold M_Mo_finished_L35
  repeat' with_reducible (first | apply yk_B | apply yk_C | exact yk_Va_add_ _ _ _ _ _ (by omega) | exact yk_R _ | exact yk_GI _ _ | intro _)
theorem yk_Mo_finished  : Yk (M_Mo_finished) := by
  unfold M_Mo_finished
  repeat' with_reducible (first | apply yk_B | apply yk_C | exact yk_Mo_finished_L35 _ | exact yk_Mo_back _ | exact yk_R _ | exact yk_GI _ _ | exact yk_PI (by omega) | exact yk_K _ | apply yk_W | intro _)
theorem yk_Mo_expect (l1 : Int32) (l2 : Int32) (l3 : Int32) : Yk (M_Mo_expect l1 l2 l3) := by
  unfold M_Mo_expect
  repeat' with_reducible (first | apply yk_B | exact yk_Th_top _ | exact yk_R _ | exact yk_GI _ _ | exact yk_SI (by omega) | exact yk_K _ | intro _)
theorem yk_Mo_arguments (l1 : Int32) (l2 : Int64) (l4 : Int32) (l5 : Int64) : Yk (M_Mo_arguments l1 l2 l4 l5) := by
  unfold M_Mo_arguments
  repeat' with_reducible (first | apply yk_B | exact yk_Va_add _ _ _ _ (by omega) | exact yk_R _ | exact yk_PI (by omega) | intro _)
theorem yk_Mo_close_j54 (l1 : Int32) (l2 : Int32) (l3 : Int32) (l4 : Int32) : Yk (M_Mo_close_j54 l1 l2 l3 l4) := by
  unfold M_Mo_close_j54
  repeat' with_reducible (first | exact yk_R _ | intro _)
theorem yk_Mo_close_L5 (x) : Yk (M_Mo_close_L5 x) := by
  unfold M_Mo_close_L5
  repeat' with_reducible (first | apply yk_B | apply yk_C | exact yk_Mo_close_j54 _ _ _ _ | exact yk_Mo_closeVariable _ | exact yk_R _ | exact yk_GI _ _ | exact yk_AI _ _ _ _ | exact yk_SI (by omega) | intro _)
theorem yk_Mo_close (l1 : Int32) (l2 : Int32) : Yk (M_Mo_close l1 l2) := by
  unfold M_Mo_close
  repeat' with_reducible (first | apply yk_B | exact yk_Mo_close_L5 _ | exact yk_R _ | exact yk_PI (by omega) | apply yk_W | intro _)
theorem yk_Mo_constant (l1 : Int32) (l2 : Int32) : Yk (M_Mo_constant l1 l2) := by
  unfold M_Mo_constant
  repeat' with_reducible (first | apply yk_B | exact yk_R _ | exact yk_PI (by omega) | exact yk_PL (by omega) | exact yk_AI _ _ _ _ | exact yk_AL _ _ _ _ | apply yk_L | intro _)
theorem yk_Mo_up (l1 : Int32) (l2 : Int32) (l3 : Int32) : Yk (M_Mo_up l1 l2 l3) := by
  unfold M_Mo_up
  repeat' with_reducible (first | apply yk_B | exact yk_R _ | exact yk_GI _ _ | exact yk_AI _ _ _ _ | exact yk_K _ | intro _)
theorem yk_Mo_rk_ (l1 : Int32) (l2 : Int32) (l3 : Int32) (l4 : Int32) : Yk (M_Mo_rk_ l1 l2 l3 l4) := by
  unfold M_Mo_rk_
  repeat' with_reducible (first | apply yk_B | apply yk_C | exact yk_Mo_constant _ _ | exact yk_R _ | exact yk_PI (by omega) | exact yk_PL (by omega) | exact yk_AI _ _ _ _ | exact yk_AL _ _ _ _ | intro _)
theorem yk_Mo_callGot  : Yk (M_Mo_callGot) := by
  unfold M_Mo_callGot
  repeat' with_reducible (first | apply yk_B | exact yk_R _ | exact yk_GI _ _ | exact yk_GL _ _ | exact yk_PI (by omega) | exact yk_PL (by omega) | intro _)
theorem yk_Mo_store (l1 : Int32) (l2 : Int32) (l3 : Int64) : Yk (M_Mo_store l1 l2 l3) := by
  unfold M_Mo_store
  repeat' with_reducible (first | apply yk_B | apply yk_C | exact yk_Va_set _ _ _ _ _ (by omega) | exact yk_R _ | exact yk_AI _ _ _ _ | exact yk_K _ | intro _)
theorem yk_Mo_eventOf (l0 : Int32) : Yk (M_Mo_eventOf l0) := by
  unfold M_Mo_eventOf
  repeat' with_reducible (first | apply yk_C | exact yk_R _ | intro _)
theorem yk_Mo_shifted (l0 : Int64) (l2 : Int64) : Yk (M_Mo_shifted l0 l2) := by
  unfold M_Mo_shifted
  repeat' with_reducible (first | apply yk_C | exact yk_R _ | intro _)
theorem yk_Mo_truth (l0 : Int32) : Yk (M_Mo_truth l0) := by
  unfold M_Mo_truth
  repeat' with_reducible (first | apply yk_C | exact yk_R _ | intro _)
theorem yk_Mo_order_L19 (x) : Yk (M_Mo_order_L19 x) := by
  unfold M_Mo_order_L19
  repeat' with_reducible (first | apply yk_B | apply yk_C | exact yk_R _ | exact yk_AI _ _ _ _ | apply yk_L | intro _)
theorem yk_Mo_order (l1 : Int32) (l2 : Int32) : Yk (M_Mo_order l1 l2) := by
  unfold M_Mo_order
  repeat' with_reducible (first | apply yk_B | exact yk_Mth_min _ _ | exact yk_Mo_order_L19 _ | exact yk_R _ | exact yk_AI _ _ _ _ | apply yk_W | apply yk_E | intro _)
theorem yk_Mo_addAt_j36 (l1r : Nat) (l1 : Int32) (l2 : Int32) (l3 : Int32) (l5 : Int32) (h0 : l1r < 98) : Yk (M_Mo_addAt_j36 l1r l1 l2 l3 l5) := by
  unfold M_Mo_addAt_j36
  repeat' with_reducible (first | apply yk_B | exact yk_Va_add_ _ _ _ _ _ (by omega) | exact yk_R _ | exact yk_AI _ _ _ _ | intro _)
theorem yk_Mo_addAt (l1r : Nat) (l1 : Int32) (l2 : Int32) (l3 : Int32) (l4 : Int32) (l5 : Int32) (h0 : l1r < 98) : Yk (M_Mo_addAt l1r l1 l2 l3 l4 l5) := by
  unfold M_Mo_addAt
  repeat' with_reducible (first | apply yk_B | apply yk_C | exact yk_Mo_addAt_j36 _ _ _ _ _ (by omega) | exact yk_Va_add_ _ _ _ _ _ (by omega) | exact yk_R _ | exact yk_AI _ _ _ _ | intro _)
theorem yk_Mo_loop_j40  : Yk (M_Mo_loop_j40) := by
  unfold M_Mo_loop_j40
  repeat' with_reducible (first | apply yk_B | exact yk_Mo_raise _ | exact yk_R _ | intro _)
theorem yk_Mo_loop_j140 (l1 : Int32) (l2 : Int32) (l3 : Int32) (l4r : Nat) (l4 : Int32) (l5 : Int32) (k0 : Int32) (h3 : l4r < 98) : Yk (M_Mo_loop_j140 l1 l2 l3 l4r l4 l5 k0) := by
  unfold M_Mo_loop_j140
  repeat' with_reducible (first | apply yk_B | apply yk_C | exact yk_Mo_sbx _ | exact yk_Va_set_ _ _ _ _ _ _ (by omega) | exact yk_R _ | exact yk_AI _ _ _ _ | exact yk_SI (by omega) | intro _)
theorem yk_Mo_loop (l1 : Int32) (l2 : Int32) (l3 : Int32) (l4r : Nat) (l4 : Int32) (l5 : Int32) (h3 : l4r < 98) : Yk (M_Mo_loop l1 l2 l3 l4r l4 l5) := by
  unfold M_Mo_loop
  repeat' with_reducible (first | apply yk_B | apply yk_C | exact yk_Mo_loop_j140 _ _ _ _ _ _ _ (by omega) | exact yk_Mo_loop_j40 | exact yk_AI _ _ _ _ | exact yk_AL _ _ _ _ | exact yk_SL (by omega) | intro _)
theorem yk_Mo_thread_L2 (x) : Yk (M_Mo_thread_L2 x) := by
  unfold M_Mo_thread_L2
  repeat' with_reducible (first | apply yk_B | apply yk_C | exact yk_R _ | exact yk_K _ | intro _)
theorem yk_Mo_thread (l1 : Int32) : Yk (M_Mo_thread l1) := by
  unfold M_Mo_thread
  repeat' with_reducible (first | apply yk_B | exact yk_Mo_thread_L2 _ | exact yk_R _ | apply yk_W | intro _)
theorem yk_Mo_further_j160 (l1 : Int32) (l2 : Int32) (l5r : Nat) (l5 : Int32) (l6 : Int32) (l7 : Int32) (l8 : Int32) (l9 : Int32) : Yk (M_Mo_further_j160 l1 l2 l5r l5 l6 l7 l8 l9) := by
  unfold M_Mo_further_j160
  repeat' with_reducible (first | exact yk_R _ | intro _)
theorem yw_Mo_further_L110 (x) (h : x.2.2.1 < 98) : Yk (oW M_Mo_further_L110 x) := by
  refine (yp_W (I := fun x => x.2.2.1 < 98) (J := fun _ => True) (fun x hx => ?_) _ h).k
  unfold M_Mo_further_L110 M_Mo_further_j160
  exact yp_C (yp_R trivial) (yp_B (yk_AI _ _ _ _).p fun _ _ => yp_C (yp_B (yk_Va_set _ _ _ _ _ hx).p fun _ _ => yp_R hx) (yp_B (yk_Va_set_ _ _ _ _ _ _ hx).p fun _ _ => yp_R hx))
theorem yk_Mo_further_L60 (x) : Yk (M_Mo_further_L60 x) := by
  unfold M_Mo_further_L60
  repeat' with_reducible (first | apply yk_B | apply yk_C | exact yk_Va_add_ _ _ _ _ _ (by omega) | exact yk_R _ | intro _)
theorem yk_Mo_further_j24 (l1 : Int32) (l2 : Int32) (l4 : Int32) (l5r : Nat) (l5 : Int32) (l6 : Int32) (k0 : Int32) (h3 : l5r < 98) : Yk (M_Mo_further_j24 l1 l2 l4 l5r l5 l6 k0) := by
  unfold M_Mo_further_j24
  repeat' with_reducible (first | apply yk_B | apply yk_C | exact yw_Mo_further_L110 _ (by dsimp only; omega) | exact yk_Mo_b _ | exact yk_Mo_further_L60 _ | exact yk_Mo_a _ | exact yk_R _ | exact yk_PI (by omega) | exact yk_AI _ _ _ _ | exact yk_SI (by omega) | apply yk_L | apply yk_W | intro _)
theorem yk_Mo_further (l1 : Int32) (l2 : Int32) (l3 : Int32) (l4 : Int32) (l5r : Nat) (l5 : Int32) (l6 : Int32) (h4 : l5r < 98) : Yk (M_Mo_further l1 l2 l3 l4 l5r l5 l6) := by
  unfold M_Mo_further
  repeat' with_reducible (first | apply yk_B | apply yk_C | exact yk_Mo_b _ | exact yk_Mo_further_j24 _ _ _ _ _ _ _ (by omega) | exact yk_AI _ _ _ _ | intro _)
theorem yk_Mo_none_j34 (k0 : Int32) (k1 : Int32) : Yk (M_Mo_none_j34 k0 k1) := by
  unfold M_Mo_none_j34
  repeat' with_reducible (first | apply yk_B | exact yk_Mo_refuse _ _ | exact yk_R _ | exact yk_K _ | intro _)
theorem yk_Mo_none_j29 (k0 : Int32) : Yk (M_Mo_none_j29 k0) := by
  unfold M_Mo_none_j29
  repeat' with_reducible (first | exact yk_Mo_none_j34 _ _ | intro _)
theorem yk_Mo_none (l1 : Int32) : Yk (M_Mo_none l1) := by
  unfold M_Mo_none
  repeat' with_reducible (first | apply yk_B | apply yk_C | exact yk_Mo_none_j29 _ | exact yk_Mo_none_j34 _ _ | exact yk_GI _ _ | exact yk_PI (by omega) | intro _)
theorem yk_Mo_value (l1 : Int32) : Yk (M_Mo_value l1) := by
  unfold M_Mo_value
  repeat' with_reducible (first | apply yk_B | apply yk_C | exact yk_Mo_none _ | exact yk_R _ | exact yk_AI _ _ _ _ | exact yk_AL _ _ _ _ | intro _)
theorem yk_Mo_byteOf__j53 (l1 : Int32) (l2 : Int32) (k0 : Int32) (k1 : Int32) : Yk (M_Mo_byteOf__j53 l1 l2 k0 k1) := by
  unfold M_Mo_byteOf__j53
  repeat' with_reducible (first | apply yk_B | apply yk_C | exact yk_Mo_refuse _ _ | exact yk_R _ | exact yk_AI _ _ _ _ | exact yk_AL _ _ _ _ | intro _)
theorem yk_Mo_byteOf__j48 (l1 : Int32) (l2 : Int32) (k0 : Int32) : Yk (M_Mo_byteOf__j48 l1 l2 k0) := by
  unfold M_Mo_byteOf__j48
  repeat' with_reducible (first | exact yk_Mo_byteOf__j53 _ _ _ _ | intro _)
theorem yk_Mo_byteOf_ (l1 : Int32) (l2 : Int32) : Yk (M_Mo_byteOf_ l1 l2) := by
  unfold M_Mo_byteOf_
  repeat' with_reducible (first | apply yk_B | apply yk_C | exact yk_Mo_none _ | exact yk_Mo_byteOf__j48 _ _ _ | exact yk_Mo_byteOf__j53 _ _ _ _ | exact yk_R _ | exact yk_AI _ _ _ _ | exact yk_AL _ _ _ _ | intro _)
theorem yk_Mo_output_j31 (l1 : Int32) (k0 : Int32) (k1 : Int32) : Yk (M_Mo_output_j31 l1 k0 k1) := by
  unfold M_Mo_output_j31
  repeat' with_reducible (first | apply yk_B | apply yk_C | exact yk_Mo_refuse _ _ | exact yk_R _ | exact yk_AI _ _ _ _ | intro _)
theorem yk_Mo_output_j26 (l1 : Int32) (k0 : Int32) : Yk (M_Mo_output_j26 l1 k0) := by
  unfold M_Mo_output_j26
  repeat' with_reducible (first | exact yk_Mo_output_j31 _ _ _ | intro _)
theorem yk_Mo_output (l1 : Int32) : Yk (M_Mo_output l1) := by
  unfold M_Mo_output
  repeat' with_reducible (first | apply yk_B | apply yk_C | exact yk_Mo_output_j26 _ _ | exact yk_Mo_output_j31 _ _ _ | exact yk_GI _ _ | exact yk_PI (by omega) | intro _)
theorem yk_Mo_count (l1 : Int32) : Yk (M_Mo_count l1) := by
  unfold M_Mo_count
  repeat' with_reducible (first | apply yk_B | apply yk_C | exact yk_R _ | exact yk_GI _ _ | exact yk_GL _ _ | exact yk_PI (by omega) | exact yk_K _ | intro _)
theorem yk_Mo_readConstants_j213 (l2 : Int32) (l3 : Int32) : Yk (M_Mo_readConstants_j213 l2 l3) := by
  unfold M_Mo_readConstants_j213
  repeat' with_reducible (first | exact yk_R _ | intro _)
theorem yk_Mo_readConstants_j184 (l2 : Int32) (l3 : Int32) (l4 : Int32) (l5 : Int64) : Yk (M_Mo_readConstants_j184 l2 l3 l4 l5) := by
  unfold M_Mo_readConstants_j184
  repeat' with_reducible (first | apply yk_B | apply yk_C | exact yk_Va_set _ _ _ _ _ (by omega) | exact yk_Mo_readConstants_j213 _ _ | exact yk_GI _ _ | exact yk_PI (by omega) | intro _)
theorem yk_Mo_readConstants_j173 (l2 : Int32) (l3 : Int32) (l4 : Int32) (l5 : Int64) (l7 : Int32) : Yk (M_Mo_readConstants_j173 l2 l3 l4 l5 l7) := by
  unfold M_Mo_readConstants_j173
  repeat' with_reducible (first | apply yk_B | exact yk_Mo_readConstants_j184 _ _ _ _ | exact yk_GI _ _ | exact yk_PI (by omega) | intro _)
theorem yk_Mo_readConstants_j110 (l2 : Int32) (l3 : Int32) (l4 : Int32) (l5 : Int64) : Yk (M_Mo_readConstants_j110 l2 l3 l4 l5) := by
  unfold M_Mo_readConstants_j110
  repeat' with_reducible (first | apply yk_B | apply yk_C | exact yk_Mo_number _ | exact yk_Mo_readConstants_j173 _ _ _ _ _ | exact yk_Mo_bad _ _ | exact yk_Mo_readConstants_j184 _ _ _ _ | exact yk_GI _ _ | exact yk_SI (by omega) | intro _)
theorem yk_Mo_readConstants_j90 (l2 : Int32) (l3 : Int32) (l4 : Int32) (k0 : Int32) : Yk (M_Mo_readConstants_j90 l2 l3 l4 k0) := by
  unfold M_Mo_readConstants_j90
  repeat' with_reducible (first | apply yk_B | apply yk_C | exact yk_Mo_need _ | exact yk_Mo_number _ | exact yk_Mo_readConstants_j110 _ _ _ _ | intro _)
theorem yk_Mo_readConstants_j78 (l2 : Int32) (l3 : Int32) (l4 : Int32) : Yk (M_Mo_readConstants_j78 l2 l3 l4) := by
  unfold M_Mo_readConstants_j78
  repeat' with_reducible (first | apply yk_C | exact yk_Mo_readConstants_j90 _ _ _ _ | intro _)
theorem yk_Mo_readConstants_L26 (x) : Yk (M_Mo_readConstants_L26 x) := by
  unfold M_Mo_readConstants_L26
  repeat' with_reducible (first | apply yk_B | apply yk_C | exact yk_Mo_number _ | exact yk_Mo_bad _ _ | exact yk_Mo_readConstants_j78 _ _ _ | exact yk_R _ | exact yk_GI _ _ | intro _)
theorem yk_Mo_readConstants (l1 : Int32) : Yk (M_Mo_readConstants l1) := by
  unfold M_Mo_readConstants
  repeat' with_reducible (first | apply yk_B | exact yk_Mo_number _ | exact yk_Mo_readConstants_L26 _ | exact yk_R _ | exact yk_GI _ _ | exact yk_SI (by omega) | apply yk_W | intro _)
theorem yk_Mo_makes_j36  : Yk (M_Mo_makes_j36) := by
  unfold M_Mo_makes_j36
  repeat' with_reducible (first | exact yk_R _ | intro _)
theorem yk_Mo_makes_j32  : Yk (M_Mo_makes_j32) := by
  unfold M_Mo_makes_j32
  repeat' with_reducible (first | exact yk_R _ | intro _)
theorem yk_Mo_makes_j16 (l0 : Int32) : Yk (M_Mo_makes_j16 l0) := by
  unfold M_Mo_makes_j16
  repeat' with_reducible (first | apply yk_B | apply yk_C | exact yk_Mo_op _ | exact yk_Mo_b _ | exact yk_Mo_makes_j32 | exact yk_Mo_makes_j36 | intro _)
theorem yk_Mo_makes (l0 : Int32) : Yk (M_Mo_makes l0) := by
  unfold M_Mo_makes
  repeat' with_reducible (first | apply yk_B | apply yk_C | exact yk_Mo_op _ | exact yk_Mo_c _ | exact yk_Mo_makes_j32 | exact yk_Mo_makes_j16 _ | intro _)
theorem yk_Mo_named_j242  : Yk (M_Mo_named_j242) := by
  unfold M_Mo_named_j242
  repeat' with_reducible (first | exact yk_R _ | intro _)
theorem yk_Mo_named_j270  : Yk (M_Mo_named_j270) := by
  unfold M_Mo_named_j270
  repeat' with_reducible (first | exact yk_R _ | intro _)
theorem yk_Mo_named_j300  : Yk (M_Mo_named_j300) := by
  unfold M_Mo_named_j300
  repeat' with_reducible (first | exact yk_R _ | intro _)
theorem yk_Mo_named_j296  : Yk (M_Mo_named_j296) := by
  unfold M_Mo_named_j296
  repeat' with_reducible (first | exact yk_R _ | intro _)
theorem yk_Mo_named_j336  : Yk (M_Mo_named_j336) := by
  unfold M_Mo_named_j336
  repeat' with_reducible (first | exact yk_R _ | intro _)
theorem yk_Mo_named_j371  : Yk (M_Mo_named_j371) := by
  unfold M_Mo_named_j371
  repeat' with_reducible (first | exact yk_R _ | intro _)
theorem yk_Mo_named_j404  : Yk (M_Mo_named_j404) := by
  unfold M_Mo_named_j404
  repeat' with_reducible (first | exact yk_R _ | intro _)
theorem yk_Mo_named_j439  : Yk (M_Mo_named_j439) := by
  unfold M_Mo_named_j439
  repeat' with_reducible (first | exact yk_R _ | intro _)
theorem yk_Mo_named_j472  : Yk (M_Mo_named_j472) := by
  unfold M_Mo_named_j472
  repeat' with_reducible (first | exact yk_R _ | intro _)
theorem yk_Mo_named_j514  : Yk (M_Mo_named_j514) := by
  unfold M_Mo_named_j514
  repeat' with_reducible (first | exact yk_R _ | intro _)
theorem yk_Mo_named_j547  : Yk (M_Mo_named_j547) := by
  unfold M_Mo_named_j547
  repeat' with_reducible (first | exact yk_R _ | intro _)
theorem yk_Mo_named_j578  : Yk (M_Mo_named_j578) := by
  unfold M_Mo_named_j578
  repeat' with_reducible (first | exact yk_R _ | intro _)
theorem yk_Mo_named_j615  : Yk (M_Mo_named_j615) := by
  unfold M_Mo_named_j615
  repeat' with_reducible (first | exact yk_R _ | intro _)
theorem yk_Mo_named_j596 (l2 : Int32) (l3 : Int32) : Yk (M_Mo_named_j596 l2 l3) := by
  unfold M_Mo_named_j596
  repeat' with_reducible (first | apply yk_B | apply yk_C | exact yk_Mo_sbx _ | exact yk_Mo_goes _ | exact yk_Mo_named_j615 | exact yk_R _ | intro _)
theorem yk_Mo_named_j645  : Yk (M_Mo_named_j645) := by
  unfold M_Mo_named_j645
  repeat' with_reducible (first | exact yk_R _ | intro _)
theorem yk_Mo_named_j666  : Yk (M_Mo_named_j666) := by
  unfold M_Mo_named_j666
  repeat' with_reducible (first | exact yk_R _ | intro _)
theorem yk_Mo_named_j696  : Yk (M_Mo_named_j696) := by
  unfold M_Mo_named_j696
  repeat' with_reducible (first | exact yk_R _ | intro _)
theorem yk_Mo_named_j750  : Yk (M_Mo_named_j750) := by
  unfold M_Mo_named_j750
  repeat' with_reducible (first | exact yk_R _ | intro _)
theorem yk_Mo_named_j746  : Yk (M_Mo_named_j746) := by
  unfold M_Mo_named_j746
  repeat' with_reducible (first | exact yk_R _ | intro _)
theorem yk_Mo_named_j726 (l5 : Int32) (l7 : Int32) : Yk (M_Mo_named_j726 l5 l7) := by
  unfold M_Mo_named_j726
  repeat' with_reducible (first | apply yk_B | apply yk_C | exact yk_Mo_named_j746 | exact yk_Mo_reg _ | exact yk_Mo_named_j750 | intro _)
theorem yk_Mo_named_j784  : Yk (M_Mo_named_j784) := by
  unfold M_Mo_named_j784
  repeat' with_reducible (first | exact yk_R _ | intro _)
theorem yk_Mo_named_j780  : Yk (M_Mo_named_j780) := by
  unfold M_Mo_named_j780
  repeat' with_reducible (first | exact yk_R _ | intro _)
theorem yk_Mo_named_j819  : Yk (M_Mo_named_j819) := by
  unfold M_Mo_named_j819
  repeat' with_reducible (first | exact yk_R _ | intro _)
theorem yk_Mo_named_j815  : Yk (M_Mo_named_j815) := by
  unfold M_Mo_named_j815
  repeat' with_reducible (first | exact yk_R _ | intro _)
theorem yk_Mo_named_j851  : Yk (M_Mo_named_j851) := by
  unfold M_Mo_named_j851
  repeat' with_reducible (first | exact yk_R _ | intro _)
theorem yk_Mo_named_j883  : Yk (M_Mo_named_j883) := by
  unfold M_Mo_named_j883
  repeat' with_reducible (first | exact yk_R _ | intro _)
theorem yk_Mo_named_j908  : Yk (M_Mo_named_j908) := by
  unfold M_Mo_named_j908
  repeat' with_reducible (first | exact yk_R _ | intro _)
theorem yk_Mo_named_j940  : Yk (M_Mo_named_j940) := by
  unfold M_Mo_named_j940
  repeat' with_reducible (first | exact yk_R _ | intro _)
theorem yk_Mo_named_j977  : Yk (M_Mo_named_j977) := by
  unfold M_Mo_named_j977
  repeat' with_reducible (first | exact yk_R _ | intro _)
theorem yk_Mo_named_j973  : Yk (M_Mo_named_j973) := by
  unfold M_Mo_named_j973
  repeat' with_reducible (first | exact yk_R _ | intro _)
theorem yk_Mo_named_j1005  : Yk (M_Mo_named_j1005) := by
  unfold M_Mo_named_j1005
  repeat' with_reducible (first | exact yk_R _ | intro _)
theorem yk_Mo_named_j1040  : Yk (M_Mo_named_j1040) := by
  unfold M_Mo_named_j1040
  repeat' with_reducible (first | exact yk_R _ | intro _)
theorem yk_Mo_named_j1036  : Yk (M_Mo_named_j1036) := by
  unfold M_Mo_named_j1036
  repeat' with_reducible (first | exact yk_R _ | intro _)
theorem yk_Mo_named (l1 : Int32) (l2 : Int32) (l3 : Int32) (l4 : Int32) : Yk (M_Mo_named l1 l2 l3 l4) := by
  unfold M_Mo_named
  repeat' with_reducible (first | apply yk_B | apply yk_C | exact yk_Mo_a _ | exact yk_Mo_b _ | exact yk_Mo_c _ | exact yk_Mo_reg _ | exact yk_Mo_named_j242 | exact yk_Mo_named_j270 | exact yk_Mo_bx _ | exact yk_Mo_named_j300 | exact yk_Mo_named_j296 | exact yk_Mo_goes _ | exact yk_Mo_named_j336 | exact yk_Mo_named_j371 | exact yk_Mo_rk _ | exact yk_Mo_named_j404 | exact yk_Mo_named_j439 | exact yk_Mo_named_j472 | exact yk_Mo_named_j514 | exact yk_Mo_named_j547 | exact yk_Mo_named_j578 | exact yk_Mo_named_j596 _ _ | exact yk_Mo_named_j615 | exact yk_Mo_named_j645 | exact yk_Mo_named_j666 | exact yk_Mo_named_j696 | exact yk_Mo_named_j750 | exact yk_Mo_named_j726 _ _ | exact yk_Mo_named_j784 | exact yk_Mo_named_j780 | exact yk_Mo_named_j819 | exact yk_Mo_named_j815 | exact yk_Mo_named_j851 | exact yk_Mo_sbx _ | exact yk_Mo_named_j883 | exact yk_Mo_named_j908 | exact yk_Mo_named_j940 | exact yk_Mo_named_j977 | exact yk_Mo_named_j973 | exact yk_Mo_named_j1005 | exact yk_Mo_named_j1040 | exact yk_Mo_named_j1036 | exact yk_R _ | exact yk_AI _ _ _ _ | exact yk_K _ | intro _)
theorem yk_Mo_markRow_L3 (x) : Yk (M_Mo_markRow_L3 x) := by
  unfold M_Mo_markRow_L3
  repeat' with_reducible (first | apply yk_B | apply yk_C | exact yk_Mo_mark _ _ | exact yk_R _ | exact yk_AI _ _ _ _ | exact yk_AL _ _ _ _ | intro _)
