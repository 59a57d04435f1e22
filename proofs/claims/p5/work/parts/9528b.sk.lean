/-! The reference's reading keeps a fault that was told (made by skgen.py). -/
theorem skk_Mo_number_L47 (x) : Skk (M_Mo_number_L47  x) := by
  unfold M_Mo_number_L47
  repeat' with_reducible (first | apply skk_B | apply skk_C | apply skk_L | exact skk_R _ | exact skk_GI _ _ | exact skk_AI _ _ _ _ | exact skk_SI | exact skk_SL | exact skk_K _ | exact skk_PI (by decide) | apply skk_W | apply skk_E | intro _)
theorem skk_Mo_number (l1 : Int32) : Skk (M_Mo_number l1) := by
  unfold M_Mo_number
  repeat' with_reducible (first | apply skk_B | apply skk_C | apply skk_L | exact skk_R _ | exact skk_GI _ _ | exact skk_AI _ _ _ _ | exact skk_SI | exact skk_SL | exact skk_K _ | exact skk_PI (by decide) | exact skk_Mo_number_L47 _ | exact skk_Mo_bad _ _ | apply skk_W | apply skk_E | intro _)
theorem skk_Mo_need (l1 : Int32) : Skk (M_Mo_need l1) := by
  unfold M_Mo_need
  repeat' with_reducible (first | apply skk_B | apply skk_C | apply skk_L | exact skk_R _ | exact skk_GI _ _ | exact skk_AI _ _ _ _ | exact skk_SI | exact skk_SL | exact skk_K _ | exact skk_PI (by decide) | exact skk_Mo_bad _ _ | apply skk_W | apply skk_E | intro _)
theorem skk_Mo_upvalue_j76 (l2 : Int32) (l3 : Int32) : Skk (M_Mo_upvalue_j76 l2 l3) := by
  unfold M_Mo_upvalue_j76
  repeat' with_reducible (first | apply skk_B | apply skk_C | apply skk_L | exact skk_R _ | exact skk_GI _ _ | exact skk_AI _ _ _ _ | exact skk_SI | exact skk_SL | exact skk_K _ | exact skk_PI (by decide) | apply skk_W | apply skk_E | intro _)
theorem skk_Mo_upvalue_j73 (l2 : Int32) (l3 : Int32) (k0 : Int32) : Skk (M_Mo_upvalue_j73 l2 l3 k0) := by
  unfold M_Mo_upvalue_j73
  repeat' with_reducible (first | apply skk_B | apply skk_C | apply skk_L | exact skk_R _ | exact skk_GI _ _ | exact skk_AI _ _ _ _ | exact skk_SI | exact skk_SL | exact skk_K _ | exact skk_PI (by decide) | exact skk_Mo_need _ | exact skk_Mo_upvalue_j76 _ _ | apply skk_W | apply skk_E | intro _)
theorem skk_Mo_upvalue_j65 (l2 : Int32) (l3 : Int32) (k0 : Int32) (k1 : Int32) : Skk (M_Mo_upvalue_j65 l2 l3 k0 k1) := by
  unfold M_Mo_upvalue_j65
  repeat' with_reducible (first | apply skk_B | apply skk_C | apply skk_L | exact skk_R _ | exact skk_GI _ _ | exact skk_AI _ _ _ _ | exact skk_SI | exact skk_SL | exact skk_K _ | exact skk_PI (by decide) | exact skk_Mo_upvalue_j73 _ _ _ | apply skk_W | apply skk_E | intro _)
theorem skk_Mo_upvalue_j25 (l1 : Int32) (l2 : Int32) : Skk (M_Mo_upvalue_j25 l1 l2) := by
  unfold M_Mo_upvalue_j25
  repeat' with_reducible (first | apply skk_B | apply skk_C | apply skk_L | exact skk_R _ | exact skk_GI _ _ | exact skk_AI _ _ _ _ | exact skk_SI | exact skk_SL | exact skk_K _ | exact skk_PI (by decide) | exact skk_Mo_number _ | exact skk_Mo_upvalue_j76 _ _ | exact skk_Mo_upvalue_j65 _ _ _ _ | apply skk_W | apply skk_E | intro _)
theorem skk_Mo_upvalue_j22 (l1 : Int32) (l2 : Int32) (k0 : Int32) : Skk (M_Mo_upvalue_j22 l1 l2 k0) := by
  unfold M_Mo_upvalue_j22
  repeat' with_reducible (first | apply skk_B | apply skk_C | apply skk_L | exact skk_R _ | exact skk_GI _ _ | exact skk_AI _ _ _ _ | exact skk_SI | exact skk_SL | exact skk_K _ | exact skk_PI (by decide) | exact skk_Mo_need _ | exact skk_Mo_upvalue_j25 _ _ | apply skk_W | apply skk_E | intro _)
theorem skk_Mo_upvalue (l1 : Int32) : Skk (M_Mo_upvalue l1) := by
  unfold M_Mo_upvalue
  repeat' with_reducible (first | apply skk_B | apply skk_C | apply skk_L | exact skk_R _ | exact skk_GI _ _ | exact skk_AI _ _ _ _ | exact skk_SI | exact skk_SL | exact skk_K _ | exact skk_PI (by decide) | exact skk_Mo_number _ | exact skk_Mo_upvalue_j25 _ _ | exact skk_Mo_upvalue_j22 _ _ _ | apply skk_W | apply skk_E | intro _)
theorem skk_Va_set (l0r : Nat) (l0 : Int32) (l1 : Int32) (l2 : Int32) (l3 : Int64) : Skk (M_Va_set l0r l0 l1 l2 l3) := by
  unfold M_Va_set
  repeat' with_reducible (first | apply skk_B | apply skk_C | apply skk_L | exact skk_R _ | exact skk_GI _ _ | exact skk_AI _ _ _ _ | exact skk_SI | exact skk_SL | exact skk_K _ | exact skk_PI (by decide) | apply skk_W | apply skk_E | intro _)
theorem skk_Mo_readConstants_j213 (l2 : Int32) (l3 : Int32) : Skk (M_Mo_readConstants_j213 l2 l3) := by
  unfold M_Mo_readConstants_j213
  repeat' with_reducible (first | apply skk_B | apply skk_C | apply skk_L | exact skk_R _ | exact skk_GI _ _ | exact skk_AI _ _ _ _ | exact skk_SI | exact skk_SL | exact skk_K _ | exact skk_PI (by decide) | apply skk_W | apply skk_E | intro _)
theorem skk_Mo_readConstants_j184 (l2 : Int32) (l3 : Int32) (l4 : Int32) (l5 : Int64) : Skk (M_Mo_readConstants_j184 l2 l3 l4 l5) := by
  unfold M_Mo_readConstants_j184
  repeat' with_reducible (first | apply skk_B | apply skk_C | apply skk_L | exact skk_R _ | exact skk_GI _ _ | exact skk_AI _ _ _ _ | exact skk_SI | exact skk_SL | exact skk_K _ | exact skk_PI (by decide) | exact skk_Va_set _ _ _ _ _ | exact skk_Mo_readConstants_j213 _ _ | apply skk_W | apply skk_E | intro _)
theorem skk_Mo_readConstants_j173 (l2 : Int32) (l3 : Int32) (l4 : Int32) (l5 : Int64) (l7 : Int32) : Skk (M_Mo_readConstants_j173 l2 l3 l4 l5 l7) := by
  unfold M_Mo_readConstants_j173
  repeat' with_reducible (first | apply skk_B | apply skk_C | apply skk_L | exact skk_R _ | exact skk_GI _ _ | exact skk_AI _ _ _ _ | exact skk_SI | exact skk_SL | exact skk_K _ | exact skk_PI (by decide) | exact skk_Mo_readConstants_j184 _ _ _ _ | apply skk_W | apply skk_E | intro _)
theorem skk_Mo_readConstants_j110 (l2 : Int32) (l3 : Int32) (l4 : Int32) (l5 : Int64) : Skk (M_Mo_readConstants_j110 l2 l3 l4 l5) := by
  unfold M_Mo_readConstants_j110
  repeat' with_reducible (first | apply skk_B | apply skk_C | apply skk_L | exact skk_R _ | exact skk_GI _ _ | exact skk_AI _ _ _ _ | exact skk_SI | exact skk_SL | exact skk_K _ | exact skk_PI (by decide) | exact skk_Mo_number _ | exact skk_Mo_readConstants_j173 _ _ _ _ _ | exact skk_Mo_bad _ _ | exact skk_Mo_readConstants_j184 _ _ _ _ | apply skk_W | apply skk_E | intro _)
theorem skk_Mo_readConstants_j90 (l2 : Int32) (l3 : Int32) (l4 : Int32) (k0 : Int32) : Skk (M_Mo_readConstants_j90 l2 l3 l4 k0) := by
  unfold M_Mo_readConstants_j90
  repeat' with_reducible (first | apply skk_B | apply skk_C | apply skk_L | exact skk_R _ | exact skk_GI _ _ | exact skk_AI _ _ _ _ | exact skk_SI | exact skk_SL | exact skk_K _ | exact skk_PI (by decide) | exact skk_Mo_need _ | exact skk_Mo_number _ | exact skk_Mo_readConstants_j110 _ _ _ _ | apply skk_W | apply skk_E | intro _)
theorem skk_Mo_readConstants_j78 (l2 : Int32) (l3 : Int32) (l4 : Int32) : Skk (M_Mo_readConstants_j78 l2 l3 l4) := by
  unfold M_Mo_readConstants_j78
  repeat' with_reducible (first | apply skk_B | apply skk_C | apply skk_L | exact skk_R _ | exact skk_GI _ _ | exact skk_AI _ _ _ _ | exact skk_SI | exact skk_SL | exact skk_K _ | exact skk_PI (by decide) | exact skk_Mo_readConstants_j90 _ _ _ _ | apply skk_W | apply skk_E | intro _)
theorem skk_Mo_readConstants_L26 (x) : Skk (M_Mo_readConstants_L26  x) := by
  unfold M_Mo_readConstants_L26
  repeat' with_reducible (first | apply skk_B | apply skk_C | apply skk_L | exact skk_R _ | exact skk_GI _ _ | exact skk_AI _ _ _ _ | exact skk_SI | exact skk_SL | exact skk_K _ | exact skk_PI (by decide) | exact skk_Mo_number _ | exact skk_Mo_bad _ _ | exact skk_Mo_readConstants_j78 _ _ _ | apply skk_W | apply skk_E | intro _)
theorem skk_Mo_readConstants (l1 : Int32) : Skk (M_Mo_readConstants l1) := by
  unfold M_Mo_readConstants
  repeat' with_reducible (first | apply skk_B | apply skk_C | apply skk_L | exact skk_R _ | exact skk_GI _ _ | exact skk_AI _ _ _ _ | exact skk_SI | exact skk_SL | exact skk_K _ | exact skk_PI (by decide) | exact skk_Mo_number _ | exact skk_Mo_readConstants_L26 _ | apply skk_W | apply skk_E | intro _)
theorem skk_Mo_proto_j24 {rec : Int32 → Int32 → M (Unit)} (hr : ∀ a b, Skk (rec a b)) : Skk (M_Mo_proto_j24 rec) := by
  unfold M_Mo_proto_j24
  repeat' with_reducible (first | apply skk_B | apply skk_C | apply skk_L | exact skk_R _ | exact skk_GI _ _ | exact skk_AI _ _ _ _ | exact skk_SI | exact skk_SL | exact skk_K _ | exact skk_PI (by decide) | exact skk_Mo_bad _ _ | exact hr _ _ | apply skk_W | apply skk_E | intro _)
theorem skk_Mo_proto_L237 {rec : Int32 → Int32 → M (Unit)} (hr : ∀ a b, Skk (rec a b)) (x) : Skk (M_Mo_proto_L237 rec x) := by
  unfold M_Mo_proto_L237
  repeat' with_reducible (first | apply skk_B | apply skk_C | apply skk_L | exact skk_R _ | exact skk_GI _ _ | exact skk_AI _ _ _ _ | exact skk_SI | exact skk_SL | exact skk_K _ | exact skk_PI (by decide) | exact skk_Mo_upvalue _ | exact hr _ _ | apply skk_W | apply skk_E | intro _)
theorem skk_Mo_proto_j365 {rec : Int32 → Int32 → M (Unit)} (hr : ∀ a b, Skk (rec a b)) (l2 : Int32) (l3 : Int32) (l4 : Int32) (l5 : Int32) (l6 : Int32) (l7 : Int32) : Skk (M_Mo_proto_j365 rec l2 l3 l4 l5 l6 l7) := by
  unfold M_Mo_proto_j365
  repeat' with_reducible (first | apply skk_B | apply skk_C | apply skk_L | exact skk_R _ | exact skk_GI _ _ | exact skk_AI _ _ _ _ | exact skk_SI | exact skk_SL | exact skk_K _ | exact skk_PI (by decide) | exact hr _ _ | apply skk_W | apply skk_E | intro _)
theorem skk_Mo_proto_L307 {rec : Int32 → Int32 → M (Unit)} (hr : ∀ a b, Skk (rec a b)) (x) : Skk (M_Mo_proto_L307 rec x) := by
  unfold M_Mo_proto_L307
  repeat' with_reducible (first | apply skk_B | apply skk_C | apply skk_L | exact skk_R _ | exact skk_GI _ _ | exact skk_AI _ _ _ _ | exact skk_SI | exact skk_SL | exact skk_K _ | exact skk_PI (by decide) | exact skk_Mo_number _ | exact skk_Mo_bad _ _ | exact skk_Mo_proto_j365 hr _ _ _ _ _ _ | exact hr _ _ | apply skk_W | apply skk_E | intro _)
theorem skk_Mo_proto_j505 {rec : Int32 → Int32 → M (Unit)} (hr : ∀ a b, Skk (rec a b)) (l2 : Int32) (l3 : Int32) (l5 : Int32) (l6 : Int32) : Skk (M_Mo_proto_j505 rec l2 l3 l5 l6) := by
  unfold M_Mo_proto_j505
  repeat' with_reducible (first | apply skk_B | apply skk_C | apply skk_L | exact skk_R _ | exact skk_GI _ _ | exact skk_AI _ _ _ _ | exact skk_SI | exact skk_SL | exact skk_K _ | exact skk_PI (by decide) | exact hr _ _ | apply skk_W | apply skk_E | intro _)
theorem skk_Mo_proto_L458 {rec : Int32 → Int32 → M (Unit)} (hr : ∀ a b, Skk (rec a b)) (x) : Skk (M_Mo_proto_L458 rec x) := by
  unfold M_Mo_proto_L458
  repeat' with_reducible (first | apply skk_B | apply skk_C | apply skk_L | exact skk_R _ | exact skk_GI _ _ | exact skk_AI _ _ _ _ | exact skk_SI | exact skk_SL | exact skk_K _ | exact skk_PI (by decide) | exact skk_Mo_proto_j505 hr _ _ _ _ | exact hr _ _ | apply skk_W | apply skk_E | intro _)
theorem skk_Mo_proto_j410 {rec : Int32 → Int32 → M (Unit)} (hr : ∀ a b, Skk (rec a b)) (l2 : Int32) (l3 : Int32) : Skk (M_Mo_proto_j410 rec l2 l3) := by
  unfold M_Mo_proto_j410
  repeat' with_reducible (first | apply skk_B | apply skk_C | apply skk_L | exact skk_R _ | exact skk_GI _ _ | exact skk_AI _ _ _ _ | exact skk_SI | exact skk_SL | exact skk_K _ | exact skk_PI (by decide) | exact skk_Mo_number _ | exact skk_Mo_proto_L458 hr _ | exact hr _ _ | apply skk_W | apply skk_E | intro _)
theorem skk_Mo_proto_j283 {rec : Int32 → Int32 → M (Unit)} (hr : ∀ a b, Skk (rec a b)) (l2 : Int32) (l3 : Int32) (l4 : Int32) (k0 : Int32) : Skk (M_Mo_proto_j283 rec l2 l3 l4 k0) := by
  unfold M_Mo_proto_j283
  repeat' with_reducible (first | apply skk_B | apply skk_C | apply skk_L | exact skk_R _ | exact skk_GI _ _ | exact skk_AI _ _ _ _ | exact skk_SI | exact skk_SL | exact skk_K _ | exact skk_PI (by decide) | exact skk_Mo_need _ | exact skk_Mo_proto_L307 hr _ | exact skk_Mo_proto_j410 hr _ _ | exact hr _ _ | apply skk_W | apply skk_E | intro _)
theorem skk_Mo_proto_j213 {rec : Int32 → Int32 → M (Unit)} (hr : ∀ a b, Skk (rec a b)) (l1 : Int32) (l2 : Int32) (l3 : Int32) (k0 : Int32) : Skk (M_Mo_proto_j213 rec l1 l2 l3 k0) := by
  unfold M_Mo_proto_j213
  repeat' with_reducible (first | apply skk_B | apply skk_C | apply skk_L | exact skk_R _ | exact skk_GI _ _ | exact skk_AI _ _ _ _ | exact skk_SI | exact skk_SL | exact skk_K _ | exact skk_PI (by decide) | exact skk_Mo_need _ | exact skk_Mo_proto_L237 hr _ | exact skk_Mo_readConstants _ | exact skk_Mo_number _ | exact skk_Mo_proto_j283 hr _ _ _ _ | exact hr _ _ | apply skk_W | apply skk_E | intro _)
theorem skk_Mo_proto_j159 {rec : Int32 → Int32 → M (Unit)} (hr : ∀ a b, Skk (rec a b)) (l1 : Int32) (l2 : Int32) (l3 : Int32) (k0 : Int32) : Skk (M_Mo_proto_j159 rec l1 l2 l3 k0) := by
  unfold M_Mo_proto_j159
  repeat' with_reducible (first | apply skk_B | apply skk_C | apply skk_L | exact skk_R _ | exact skk_GI _ _ | exact skk_AI _ _ _ _ | exact skk_SI | exact skk_SL | exact skk_K _ | exact skk_PI (by decide) | exact skk_Mo_need _ | exact skk_Mo_number _ | exact skk_Mo_proto_j213 hr _ _ _ _ | exact hr _ _ | apply skk_W | apply skk_E | intro _)
theorem skk_Mo_proto_j158 {rec : Int32 → Int32 → M (Unit)} (hr : ∀ a b, Skk (rec a b)) (l1 : Int32) (l2 : Int32) (l3 : Int32) : Skk (M_Mo_proto_j158 rec l1 l2 l3) := by
  unfold M_Mo_proto_j158
  repeat' with_reducible (first | apply skk_B | apply skk_C | apply skk_L | exact skk_R _ | exact skk_GI _ _ | exact skk_AI _ _ _ _ | exact skk_SI | exact skk_SL | exact skk_K _ | exact skk_PI (by decide) | exact skk_Mo_proto_j159 hr _ _ _ _ | exact hr _ _ | apply skk_W | apply skk_E | intro _)
theorem skk_Mo_proto_j101 {rec : Int32 → Int32 → M (Unit)} (hr : ∀ a b, Skk (rec a b)) (l1 : Int32) (l2 : Int32) (l3 : Int32) (k0 : Int32) : Skk (M_Mo_proto_j101 rec l1 l2 l3 k0) := by
  unfold M_Mo_proto_j101
  repeat' with_reducible (first | apply skk_B | apply skk_C | apply skk_L | exact skk_R _ | exact skk_GI _ _ | exact skk_AI _ _ _ _ | exact skk_SI | exact skk_SL | exact skk_K _ | exact skk_PI (by decide) | exact skk_Mo_need _ | exact skk_Mo_number _ | exact skk_Mo_proto_j158 hr _ _ _ | exact skk_Mo_proto_j159 hr _ _ _ _ | exact hr _ _ | apply skk_W | apply skk_E | intro _)
theorem skk_Mo_proto_j100 {rec : Int32 → Int32 → M (Unit)} (hr : ∀ a b, Skk (rec a b)) (l1 : Int32) (l2 : Int32) (l3 : Int32) : Skk (M_Mo_proto_j100 rec l1 l2 l3) := by
  unfold M_Mo_proto_j100
  repeat' with_reducible (first | apply skk_B | apply skk_C | apply skk_L | exact skk_R _ | exact skk_GI _ _ | exact skk_AI _ _ _ _ | exact skk_SI | exact skk_SL | exact skk_K _ | exact skk_PI (by decide) | exact skk_Mo_proto_j101 hr _ _ _ _ | exact hr _ _ | apply skk_W | apply skk_E | intro _)
theorem skk_Mo_proto_j96 {rec : Int32 → Int32 → M (Unit)} (hr : ∀ a b, Skk (rec a b)) (l1 : Int32) (l2 : Int32) (l3 : Int32) : Skk (M_Mo_proto_j96 rec l1 l2 l3) := by
  unfold M_Mo_proto_j96
  repeat' with_reducible (first | apply skk_B | apply skk_C | apply skk_L | exact skk_R _ | exact skk_GI _ _ | exact skk_AI _ _ _ _ | exact skk_SI | exact skk_SL | exact skk_K _ | exact skk_PI (by decide) | exact skk_Mo_proto_j101 hr _ _ _ _ | exact hr _ _ | apply skk_W | apply skk_E | intro _)
theorem skk_Mo_proto_body {rec : Int32 → Int32 → M (Unit)} (hr : ∀ a b, Skk (rec a b)) (l1 : Int32) (l2 : Int32) : Skk (M_Mo_proto_body rec l1 l2) := by
  unfold M_Mo_proto_body
  repeat' with_reducible (first | apply skk_B | apply skk_C | apply skk_L | exact skk_R _ | exact skk_GI _ _ | exact skk_AI _ _ _ _ | exact skk_SI | exact skk_SL | exact skk_K _ | exact skk_PI (by decide) | exact skk_Mo_proto_j24 hr  | exact skk_Mo_number _ | exact skk_Mo_proto_j100 hr _ _ _ | exact skk_Mo_proto_j96 hr _ _ _ | exact hr _ _ | apply skk_W | apply skk_E | intro _)
theorem skk_Mo_proto : ∀ (k : Nat) (a b : Int32), Skk (M_Mo_proto k a b)
  | 0, _, _ => skk_F
  | k + 1, a, b => skk_Mo_proto_body (fun a b => skk_Mo_proto k a b) a b
