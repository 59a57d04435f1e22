/-! Made by wip/l2n/ugen.py: what was printed stays within its row. -/
theorem uk_Mo_arguments (l1 : Int32) (l2 : Int64) (l4 : Int32) (l5 : Int64) : Uk (M_Mo_arguments l1 l2 l4 l5) := by
  unfold M_Mo_arguments
  repeat' with_reducible (first | apply uk_B | exact uk_Va_add _ _ _ _ | exact uk_R _ | exact uk_PI (by omega) | intro _)
theorem uk_Mo_close_j54 (l1 : Int32) (l2 : Int32) (l3 : Int32) (l4 : Int32) : Uk (M_Mo_close_j54 l1 l2 l3 l4) := by
  unfold M_Mo_close_j54
  repeat' with_reducible (first | exact uk_R _ | intro _)
theorem uk_Mo_close_L5 (x) : Uk (M_Mo_close_L5 x) := by
  unfold M_Mo_close_L5
  repeat' with_reducible (first | apply uk_B | apply uk_C | exact uk_Mo_close_j54 _ _ _ _ | exact uk_Mo_closeVariable _ | exact uk_R _ | exact uk_GI _ _ | exact uk_AI _ _ _ _ | exact uk_SI | intro _)
theorem uk_Mo_close (l1 : Int32) (l2 : Int32) : Uk (M_Mo_close l1 l2) := by
  unfold M_Mo_close
  repeat' with_reducible (first | apply uk_B | exact uk_Mo_close_L5 _ | exact uk_R _ | exact uk_PI (by omega) | apply uk_W | intro _)
theorem uk_Mo_constant (l1 : Int32) (l2 : Int32) : Uk (M_Mo_constant l1 l2) := by
  unfold M_Mo_constant
  repeat' with_reducible (first | apply uk_B | exact uk_R _ | exact uk_PI (by omega) | exact uk_PL | exact uk_AI _ _ _ _ | exact uk_AL _ _ _ _ | apply uk_L | intro _)
theorem uk_Mo_up (l1 : Int32) (l2 : Int32) (l3 : Int32) : Uk (M_Mo_up l1 l2 l3) := by
  unfold M_Mo_up
  repeat' with_reducible (first | apply uk_B | exact uk_R _ | exact uk_GI _ _ | exact uk_AI _ _ _ _ | exact uk_K _ | intro _)
theorem uk_Mo_rk_ (l1 : Int32) (l2 : Int32) (l3 : Int32) (l4 : Int32) : Uk (M_Mo_rk_ l1 l2 l3 l4) := by
  unfold M_Mo_rk_
  repeat' with_reducible (first | apply uk_B | apply uk_C | exact uk_Mo_constant _ _ | exact uk_R _ | exact uk_PI (by omega) | exact uk_PL | exact uk_AI _ _ _ _ | exact uk_AL _ _ _ _ | intro _)
theorem uk_Mo_callGot  : Uk (M_Mo_callGot) := by
  unfold M_Mo_callGot
  repeat' with_reducible (first | apply uk_B | exact uk_R _ | exact uk_GI _ _ | exact uk_GL _ _ | exact uk_PI (by omega) | exact uk_PL | intro _)
theorem uk_Mo_store (l1 : Int32) (l2 : Int32) (l3 : Int64) : Uk (M_Mo_store l1 l2 l3) := by
  unfold M_Mo_store
  repeat' with_reducible (first | apply uk_B | apply uk_C | exact uk_Va_set _ _ _ _ _ | exact uk_R _ | exact uk_AI _ _ _ _ | exact uk_K _ | intro _)
theorem uk_Mo_eventOf (l0 : Int32) : Uk (M_Mo_eventOf l0) := by
  unfold M_Mo_eventOf
  repeat' with_reducible (first | apply uk_C | exact uk_R _ | intro _)
theorem uk_Mo_shifted (l0 : Int64) (l2 : Int64) : Uk (M_Mo_shifted l0 l2) := by
  unfold M_Mo_shifted
  repeat' with_reducible (first | apply uk_C | exact uk_R _ | intro _)
theorem uk_Mo_truth (l0 : Int32) : Uk (M_Mo_truth l0) := by
  unfold M_Mo_truth
  repeat' with_reducible (first | apply uk_C | exact uk_R _ | intro _)
theorem uk_Mo_order_L19 (x) : Uk (M_Mo_order_L19 x) := by
  unfold M_Mo_order_L19
  repeat' with_reducible (first | apply uk_B | apply uk_C | exact uk_R _ | exact uk_AI _ _ _ _ | apply uk_L | intro _)
theorem uk_Mo_order (l1 : Int32) (l2 : Int32) : Uk (M_Mo_order l1 l2) := by
  unfold M_Mo_order
  repeat' with_reducible (first | apply uk_B | exact uk_Mth_min _ _ | exact uk_Mo_order_L19 _ | exact uk_R _ | exact uk_AI _ _ _ _ | apply uk_W | apply uk_E | intro _)
theorem uk_Mo_addAt_j36 (l1r : Nat) (l1 : Int32) (l2 : Int32) (l3 : Int32) (l5 : Int32) : Uk (M_Mo_addAt_j36 l1r l1 l2 l3 l5) := by
  unfold M_Mo_addAt_j36
  repeat' with_reducible (first | apply uk_B | exact uk_Va_add_ _ _ _ _ _ | exact uk_R _ | exact uk_AI _ _ _ _ | intro _)
theorem uk_Mo_addAt (l1r : Nat) (l1 : Int32) (l2 : Int32) (l3 : Int32) (l4 : Int32) (l5 : Int32) : Uk (M_Mo_addAt l1r l1 l2 l3 l4 l5) := by
  unfold M_Mo_addAt
  repeat' with_reducible (first | apply uk_B | apply uk_C | exact uk_Mo_addAt_j36 _ _ _ _ _ | exact uk_Va_add_ _ _ _ _ _ | exact uk_R _ | exact uk_AI _ _ _ _ | intro _)
theorem uk_Mo_loop_j40  : Uk (M_Mo_loop_j40) := by
  unfold M_Mo_loop_j40
  repeat' with_reducible (first | apply uk_B | exact uk_Mo_raise _ | exact uk_R _ | intro _)
theorem uk_Mo_loop_j140 (l1 : Int32) (l2 : Int32) (l3 : Int32) (l4r : Nat) (l4 : Int32) (l5 : Int32) (k0 : Int32) : Uk (M_Mo_loop_j140 l1 l2 l3 l4r l4 l5 k0) := by
  unfold M_Mo_loop_j140
  repeat' with_reducible (first | apply uk_B | apply uk_C | exact uk_Mo_sbx _ | exact uk_Va_set_ _ _ _ _ _ _ | exact uk_R _ | exact uk_AI _ _ _ _ | exact uk_SI | intro _)
theorem uk_Mo_loop (l1 : Int32) (l2 : Int32) (l3 : Int32) (l4r : Nat) (l4 : Int32) (l5 : Int32) : Uk (M_Mo_loop l1 l2 l3 l4r l4 l5) := by
  unfold M_Mo_loop
  repeat' with_reducible (first | apply uk_B | apply uk_C | exact uk_Mo_loop_j140 _ _ _ _ _ _ _ | exact uk_Mo_loop_j40 | exact uk_AI _ _ _ _ | exact uk_AL _ _ _ _ | exact uk_SL | intro _)
theorem uk_Mo_thread_L2 (x) : Uk (M_Mo_thread_L2 x) := by
  unfold M_Mo_thread_L2
  repeat' with_reducible (first | apply uk_B | apply uk_C | exact uk_R _ | exact uk_K _ | intro _)
theorem uk_Mo_thread (l1 : Int32) : Uk (M_Mo_thread l1) := by
  unfold M_Mo_thread
  repeat' with_reducible (first | apply uk_B | exact uk_Mo_thread_L2 _ | exact uk_R _ | apply uk_W | intro _)
theorem uk_Mo_further_j160 (l1 : Int32) (l2 : Int32) (l5r : Nat) (l5 : Int32) (l6 : Int32) (l7 : Int32) (l8 : Int32) (l9 : Int32) : Uk (M_Mo_further_j160 l1 l2 l5r l5 l6 l7 l8 l9) := by
  unfold M_Mo_further_j160
  repeat' with_reducible (first | exact uk_R _ | intro _)
theorem uk_Mo_further_L110 (x) : Uk (M_Mo_further_L110 x) := by
  unfold M_Mo_further_L110
  repeat' with_reducible (first | apply uk_B | apply uk_C | exact uk_Va_set _ _ _ _ _ | exact uk_Mo_further_j160 _ _ _ _ _ _ _ _ | exact uk_Va_set_ _ _ _ _ _ _ | exact uk_R _ | exact uk_AI _ _ _ _ | intro _)
theorem uk_Mo_further_L60 (x) : Uk (M_Mo_further_L60 x) := by
  unfold M_Mo_further_L60
  repeat' with_reducible (first | apply uk_B | apply uk_C | exact uk_Va_add_ _ _ _ _ _ | exact uk_R _ | intro _)
theorem uk_Mo_further_j24 (l1 : Int32) (l2 : Int32) (l4 : Int32) (l5r : Nat) (l5 : Int32) (l6 : Int32) (k0 : Int32) : Uk (M_Mo_further_j24 l1 l2 l4 l5r l5 l6 k0) := by
  unfold M_Mo_further_j24
  repeat' with_reducible (first | apply uk_B | apply uk_C | exact uk_Mo_b _ | exact uk_Mo_further_L60 _ | exact uk_Mo_a _ | exact uk_Mo_further_L110 _ | exact uk_R _ | exact uk_PI (by omega) | exact uk_AI _ _ _ _ | exact uk_SI | apply uk_L | apply uk_W | intro _)
theorem uk_Mo_further (l1 : Int32) (l2 : Int32) (l3 : Int32) (l4 : Int32) (l5r : Nat) (l5 : Int32) (l6 : Int32) : Uk (M_Mo_further l1 l2 l3 l4 l5r l5 l6) := by
  unfold M_Mo_further
  repeat' with_reducible (first | apply uk_B | apply uk_C | exact uk_Mo_b _ | exact uk_Mo_further_j24 _ _ _ _ _ _ _ | exact uk_AI _ _ _ _ | intro _)
theorem uk_Mo_none_j34 (k0 : Int32) (k1 : Int32) : Uk (M_Mo_none_j34 k0 k1) := by
  unfold M_Mo_none_j34
  repeat' with_reducible (first | apply uk_B | exact uk_Mo_refuse _ _ | exact uk_R _ | exact uk_K _ | intro _)
theorem uk_Mo_none_j29 (k0 : Int32) : Uk (M_Mo_none_j29 k0) := by
  unfold M_Mo_none_j29
  repeat' with_reducible (first | exact uk_Mo_none_j34 _ _ | intro _)
theorem uk_Mo_none (l1 : Int32) : Uk (M_Mo_none l1) := by
  unfold M_Mo_none
  repeat' with_reducible (first | apply uk_B | apply uk_C | exact uk_Mo_none_j29 _ | exact uk_Mo_none_j34 _ _ | exact uk_GI _ _ | exact uk_PI (by omega) | intro _)
theorem uk_Mo_value (l1 : Int32) : Uk (M_Mo_value l1) := by
  unfold M_Mo_value
  repeat' with_reducible (first | apply uk_B | apply uk_C | exact uk_Mo_none _ | exact uk_R _ | exact uk_AI _ _ _ _ | exact uk_AL _ _ _ _ | intro _)
theorem uk_Mo_byteOf__j53 (l1 : Int32) (l2 : Int32) (k0 : Int32) (k1 : Int32) : Uk (M_Mo_byteOf__j53 l1 l2 k0 k1) := by
  unfold M_Mo_byteOf__j53
  repeat' with_reducible (first | apply uk_B | apply uk_C | exact uk_Mo_refuse _ _ | exact uk_R _ | exact uk_AI _ _ _ _ | exact uk_AL _ _ _ _ | intro _)
theorem uk_Mo_byteOf__j48 (l1 : Int32) (l2 : Int32) (k0 : Int32) : Uk (M_Mo_byteOf__j48 l1 l2 k0) := by
  unfold M_Mo_byteOf__j48
  repeat' with_reducible (first | exact uk_Mo_byteOf__j53 _ _ _ _ | intro _)
theorem uk_Mo_byteOf_ (l1 : Int32) (l2 : Int32) : Uk (M_Mo_byteOf_ l1 l2) := by
  unfold M_Mo_byteOf_
  repeat' with_reducible (first | apply uk_B | apply uk_C | exact uk_Mo_none _ | exact uk_Mo_byteOf__j48 _ _ _ | exact uk_Mo_byteOf__j53 _ _ _ _ | exact uk_R _ | exact uk_AI _ _ _ _ | exact uk_AL _ _ _ _ | intro _)
theorem uk_Mo_output_j31 (l1 : Int32) (k0 : Int32) (k1 : Int32) : Uk (M_Mo_output_j31 l1 k0 k1) := by
  unfold M_Mo_output_j31
  repeat' with_reducible (first | apply uk_B | apply uk_C | exact uk_Mo_refuse _ _ | exact uk_R _ | exact uk_AI _ _ _ _ | intro _)
theorem uk_Mo_output_j26 (l1 : Int32) (k0 : Int32) : Uk (M_Mo_output_j26 l1 k0) := by
  unfold M_Mo_output_j26
  repeat' with_reducible (first | exact uk_Mo_output_j31 _ _ _ | intro _)
theorem uk_Mo_output (l1 : Int32) : Uk (M_Mo_output l1) := by
  unfold M_Mo_output
  repeat' with_reducible (first | apply uk_B | apply uk_C | exact uk_Mo_output_j26 _ _ | exact uk_Mo_output_j31 _ _ _ | exact uk_GI _ _ | exact uk_PI (by omega) | intro _)
theorem uk_Mo_count (l1 : Int32) : Uk (M_Mo_count l1) := by
  unfold M_Mo_count
  repeat' with_reducible (first | apply uk_B | apply uk_C | exact uk_R _ | exact uk_GI _ _ | exact uk_GL _ _ | exact uk_PI (by omega) | exact uk_K _ | intro _)
theorem uk_Mo_readConstants_j213 (l2 : Int32) (l3 : Int32) : Uk (M_Mo_readConstants_j213 l2 l3) := by
  unfold M_Mo_readConstants_j213
  repeat' with_reducible (first | exact uk_R _ | intro _)
theorem uk_Mo_readConstants_j184 (l2 : Int32) (l3 : Int32) (l4 : Int32) (l5 : Int64) : Uk (M_Mo_readConstants_j184 l2 l3 l4 l5) := by
  unfold M_Mo_readConstants_j184
  repeat' with_reducible (first | apply uk_B | apply uk_C | exact uk_Va_set _ _ _ _ _ | exact uk_Mo_readConstants_j213 _ _ | exact uk_GI _ _ | exact uk_PI (by omega) | intro _)
theorem uk_Mo_readConstants_j173 (l2 : Int32) (l3 : Int32) (l4 : Int32) (l5 : Int64) (l7 : Int32) : Uk (M_Mo_readConstants_j173 l2 l3 l4 l5 l7) := by
  unfold M_Mo_readConstants_j173
  repeat' with_reducible (first | apply uk_B | exact uk_Mo_readConstants_j184 _ _ _ _ | exact uk_GI _ _ | exact uk_PI (by omega) | intro _)
theorem uk_Mo_readConstants_j110 (l2 : Int32) (l3 : Int32) (l4 : Int32) (l5 : Int64) : Uk (M_Mo_readConstants_j110 l2 l3 l4 l5) := by
  unfold M_Mo_readConstants_j110
  repeat' with_reducible (first | apply uk_B | apply uk_C | exact uk_Mo_number _ | exact uk_Mo_readConstants_j173 _ _ _ _ _ | exact uk_Mo_bad _ _ | exact uk_Mo_readConstants_j184 _ _ _ _ | exact uk_GI _ _ | exact uk_SI | intro _)
theorem uk_Mo_readConstants_j90 (l2 : Int32) (l3 : Int32) (l4 : Int32) (k0 : Int32) : Uk (M_Mo_readConstants_j90 l2 l3 l4 k0) := by
  unfold M_Mo_readConstants_j90
  repeat' with_reducible (first | apply uk_B | apply uk_C | exact uk_Mo_need _ | exact uk_Mo_number _ | exact uk_Mo_readConstants_j110 _ _ _ _ | intro _)
theorem uk_Mo_readConstants_j78 (l2 : Int32) (l3 : Int32) (l4 : Int32) : Uk (M_Mo_readConstants_j78 l2 l3 l4) := by
  unfold M_Mo_readConstants_j78
  repeat' with_reducible (first | apply uk_C | exact uk_Mo_readConstants_j90 _ _ _ _ | intro _)
theorem uk_Mo_readConstants_L26 (x) : Uk (M_Mo_readConstants_L26 x) := by
  unfold M_Mo_readConstants_L26
  repeat' with_reducible (first | apply uk_B | apply uk_C | exact uk_Mo_number _ | exact uk_Mo_bad _ _ | exact uk_Mo_readConstants_j78 _ _ _ | exact uk_R _ | exact uk_GI _ _ | intro _)
theorem uk_Mo_readConstants (l1 : Int32) : Uk (M_Mo_readConstants l1) := by
  unfold M_Mo_readConstants
  repeat' with_reducible (first | apply uk_B | exact uk_Mo_number _ | exact uk_Mo_readConstants_L26 _ | exact uk_R _ | exact uk_GI _ _ | exact uk_SI | apply uk_W | intro _)
theorem uk_Mo_makes_j36  : Uk (M_Mo_makes_j36) := by
  unfold M_Mo_makes_j36
  repeat' with_reducible (first | exact uk_R _ | intro _)
theorem uk_Mo_makes_j32  : Uk (M_Mo_makes_j32) := by
  unfold M_Mo_makes_j32
  repeat' with_reducible (first | exact uk_R _ | intro _)
theorem uk_Mo_makes_j16 (l0 : Int32) : Uk (M_Mo_makes_j16 l0) := by
  unfold M_Mo_makes_j16
  repeat' with_reducible (first | apply uk_B | apply uk_C | exact uk_Mo_op _ | exact uk_Mo_b _ | exact uk_Mo_makes_j32 | exact uk_Mo_makes_j36 | intro _)
theorem uk_Mo_makes (l0 : Int32) : Uk (M_Mo_makes l0) := by
  unfold M_Mo_makes
  repeat' with_reducible (first | apply uk_B | apply uk_C | exact uk_Mo_op _ | exact uk_Mo_c _ | exact uk_Mo_makes_j32 | exact uk_Mo_makes_j16 _ | intro _)
theorem uk_Mo_named_j242  : Uk (M_Mo_named_j242) := by
  unfold M_Mo_named_j242
  repeat' with_reducible (first | exact uk_R _ | intro _)
theorem uk_Mo_named_j270  : Uk (M_Mo_named_j270) := by
  unfold M_Mo_named_j270
  repeat' with_reducible (first | exact uk_R _ | intro _)
theorem uk_Mo_named_j300  : Uk (M_Mo_named_j300) := by
  unfold M_Mo_named_j300
  repeat' with_reducible (first | exact uk_R _ | intro _)
theorem uk_Mo_named_j296  : Uk (M_Mo_named_j296) := by
  unfold M_Mo_named_j296
  repeat' with_reducible (first | exact uk_R _ | intro _)
theorem uk_Mo_named_j336  : Uk (M_Mo_named_j336) := by
  unfold M_Mo_named_j336
  repeat' with_reducible (first | exact uk_R _ | intro _)
theorem uk_Mo_named_j371  : Uk (M_Mo_named_j371) := by
  unfold M_Mo_named_j371
  repeat' with_reducible (first | exact uk_R _ | intro _)
theorem uk_Mo_named_j404  : Uk (M_Mo_named_j404) := by
  unfold M_Mo_named_j404
  repeat' with_reducible (first | exact uk_R _ | intro _)
theorem uk_Mo_named_j439  : Uk (M_Mo_named_j439) := by
  unfold M_Mo_named_j439
  repeat' with_reducible (first | exact uk_R _ | intro _)
theorem uk_Mo_named_j472  : Uk (M_Mo_named_j472) := by
  unfold M_Mo_named_j472
  repeat' with_reducible (first | exact uk_R _ | intro _)
theorem uk_Mo_named_j514  : Uk (M_Mo_named_j514) := by
  unfold M_Mo_named_j514
  repeat' with_reducible (first | exact uk_R _ | intro _)
theorem uk_Mo_named_j547  : Uk (M_Mo_named_j547) := by
  unfold M_Mo_named_j547
  repeat' with_reducible (first | exact uk_R _ | intro _)
theorem uk_Mo_named_j578  : Uk (M_Mo_named_j578) := by
  unfold M_Mo_named_j578
  repeat' with_reducible (first | exact uk_R _ | intro _)
theorem uk_Mo_named_j615  : Uk (M_Mo_named_j615) := by
  unfold M_Mo_named_j615
  repeat' with_reducible (first | exact uk_R _ | intro _)
theorem uk_Mo_named_j596 (l2 : Int32) (l3 : Int32) : Uk (M_Mo_named_j596 l2 l3) := by
  unfold M_Mo_named_j596
  repeat' with_reducible (first | apply uk_B | apply uk_C | exact uk_Mo_sbx _ | exact uk_Mo_goes _ | exact uk_Mo_named_j615 | exact uk_R _ | intro _)
theorem uk_Mo_named_j645  : Uk (M_Mo_named_j645) := by
  unfold M_Mo_named_j645
  repeat' with_reducible (first | exact uk_R _ | intro _)
theorem uk_Mo_named_j666  : Uk (M_Mo_named_j666) := by
  unfold M_Mo_named_j666
  repeat' with_reducible (first | exact uk_R _ | intro _)
theorem uk_Mo_named_j696  : Uk (M_Mo_named_j696) := by
  unfold M_Mo_named_j696
  repeat' with_reducible (first | exact uk_R _ | intro _)
theorem uk_Mo_named_j750  : Uk (M_Mo_named_j750) := by
  unfold M_Mo_named_j750
  repeat' with_reducible (first | exact uk_R _ | intro _)
theorem uk_Mo_named_j746  : Uk (M_Mo_named_j746) := by
  unfold M_Mo_named_j746
  repeat' with_reducible (first | exact uk_R _ | intro _)
theorem uk_Mo_named_j726 (l5 : Int32) (l7 : Int32) : Uk (M_Mo_named_j726 l5 l7) := by
  unfold M_Mo_named_j726
  repeat' with_reducible (first | apply uk_B | apply uk_C | exact uk_Mo_named_j746 | exact uk_Mo_reg _ | exact uk_Mo_named_j750 | intro _)
theorem uk_Mo_named_j784  : Uk (M_Mo_named_j784) := by
  unfold M_Mo_named_j784
  repeat' with_reducible (first | exact uk_R _ | intro _)
theorem uk_Mo_named_j780  : Uk (M_Mo_named_j780) := by
  unfold M_Mo_named_j780
  repeat' with_reducible (first | exact uk_R _ | intro _)
theorem uk_Mo_named_j819  : Uk (M_Mo_named_j819) := by
  unfold M_Mo_named_j819
  repeat' with_reducible (first | exact uk_R _ | intro _)
theorem uk_Mo_named_j815  : Uk (M_Mo_named_j815) := by
  unfold M_Mo_named_j815
  repeat' with_reducible (first | exact uk_R _ | intro _)
theorem uk_Mo_named_j851  : Uk (M_Mo_named_j851) := by
  unfold M_Mo_named_j851
  repeat' with_reducible (first | exact uk_R _ | intro _)
theorem uk_Mo_named_j883  : Uk (M_Mo_named_j883) := by
  unfold M_Mo_named_j883
  repeat' with_reducible (first | exact uk_R _ | intro _)
theorem uk_Mo_named_j908  : Uk (M_Mo_named_j908) := by
  unfold M_Mo_named_j908
  repeat' with_reducible (first | exact uk_R _ | intro _)
theorem uk_Mo_named_j940  : Uk (M_Mo_named_j940) := by
  unfold M_Mo_named_j940
  repeat' with_reducible (first | exact uk_R _ | intro _)
theorem uk_Mo_named_j977  : Uk (M_Mo_named_j977) := by
  unfold M_Mo_named_j977
  repeat' with_reducible (first | exact uk_R _ | intro _)
theorem uk_Mo_named_j973  : Uk (M_Mo_named_j973) := by
  unfold M_Mo_named_j973
  repeat' with_reducible (first | exact uk_R _ | intro _)
theorem uk_Mo_named_j1005  : Uk (M_Mo_named_j1005) := by
  unfold M_Mo_named_j1005
  repeat' with_reducible (first | exact uk_R _ | intro _)
theorem uk_Mo_named_j1040  : Uk (M_Mo_named_j1040) := by
  unfold M_Mo_named_j1040
  repeat' with_reducible (first | exact uk_R _ | intro _)
theorem uk_Mo_named_j1036  : Uk (M_Mo_named_j1036) := by
  unfold M_Mo_named_j1036
  repeat' with_reducible (first | exact uk_R _ | intro _)
theorem uk_Mo_named (l1 : Int32) (l2 : Int32) (l3 : Int32) (l4 : Int32) : Uk (M_Mo_named l1 l2 l3 l4) := by
  unfold M_Mo_named
  repeat' with_reducible (first | apply uk_B | apply uk_C | exact uk_Mo_a _ | exact uk_Mo_b _ | exact uk_Mo_c _ | exact uk_Mo_reg _ | exact uk_Mo_named_j242 | exact uk_Mo_named_j270 | exact uk_Mo_bx _ | exact uk_Mo_named_j300 | exact uk_Mo_named_j296 | exact uk_Mo_goes _ | exact uk_Mo_named_j336 | exact uk_Mo_named_j371 | exact uk_Mo_rk _ | exact uk_Mo_named_j404 | exact uk_Mo_named_j439 | exact uk_Mo_named_j472 | exact uk_Mo_named_j514 | exact uk_Mo_named_j547 | exact uk_Mo_named_j578 | exact uk_Mo_named_j596 _ _ | exact uk_Mo_named_j615 | exact uk_Mo_named_j645 | exact uk_Mo_named_j666 | exact uk_Mo_named_j696 | exact uk_Mo_named_j750 | exact uk_Mo_named_j726 _ _ | exact uk_Mo_named_j784 | exact uk_Mo_named_j780 | exact uk_Mo_named_j819 | exact uk_Mo_named_j815 | exact uk_Mo_named_j851 | exact uk_Mo_sbx _ | exact uk_Mo_named_j883 | exact uk_Mo_named_j908 | exact uk_Mo_named_j940 | exact uk_Mo_named_j977 | exact uk_Mo_named_j973 | exact uk_Mo_named_j1005 | exact uk_Mo_named_j1040 | exact uk_Mo_named_j1036 | exact uk_R _ | exact uk_AI _ _ _ _ | exact uk_K _ | intro _)
theorem uk_Mo_markRow_L3 (x) : Uk (M_Mo_markRow_L3 x) := by
  unfold M_Mo_markRow_L3
  repeat' with_reducible (first | apply uk_B | apply uk_C | exact uk_Mo_mark _ _ | exact uk_R _ | exact uk_AI _ _ _ _ | exact uk_AL _ _ _ _ | intro _)
theorem uk_Mo_markRow (l1r : Nat) (l1 : Int32) (l2 : Int32) (l3 : Int32) : Uk (M_Mo_markRow l1r l1 l2 l3) := by
  unfold M_Mo_markRow
  repeat' with_reducible (first | apply uk_B | exact uk_Mo_markRow_L3 _ | exact uk_R _ | apply uk_W | intro _)
theorem uk_Th_reach_j126 (l0 : Int32) (l2 : Int32) : Uk (M_Th_reach_j126 l0 l2) := by
  unfold M_Th_reach_j126
  repeat' with_reducible (first | exact uk_R _ | intro _)
theorem uk_Th_reach_j45 (l0 : Int32) (l2 : Int32) : Uk (M_Th_reach_j45 l0 l2) := by
  unfold M_Th_reach_j45
  repeat' with_reducible (first | apply uk_B | apply uk_C | exact uk_Mo_markRow _ _ _ _ | exact uk_Th_reach_j126 _ _ | exact uk_GI _ _ | exact uk_AI _ _ _ _ | intro _)
theorem uk_Th_reach_L18 (x) : Uk (M_Th_reach_L18 x) := by
  unfold M_Th_reach_L18
  repeat' with_reducible (first | apply uk_B | apply uk_C | exact uk_Th_reach_j45 _ _ | exact uk_Mo_place _ | exact uk_R _ | exact uk_GI _ _ | exact uk_AI _ _ _ _ | intro _)
theorem uk_Th_reach_L134 (x) : Uk (M_Th_reach_L134 x) := by
  unfold M_Th_reach_L134
  repeat' with_reducible (first | apply uk_B | apply uk_C | exact uk_Mo_place _ | exact uk_R _ | exact uk_GI _ _ | exact uk_AI _ _ _ _ | intro _)
theorem uk_Th_reach (l0 : Int32) : Uk (M_Th_reach l0) := by
  unfold M_Th_reach
  repeat' with_reducible (first | apply uk_B | exact uk_Mo_markRow _ _ _ _ | exact uk_Th_reach_L18 _ | exact uk_Th_reach_L134 _ | exact uk_R _ | exact uk_GI _ _ | apply uk_W | intro _)
