theorem mo_s8 {X : Cx} {q0 q : PL} {ls : Array Slot} {a0 : Nat} {m : Nat × Nat} (g : Gd X y_Mo_init b_Mo_init 2 none 4 81 R_Mo) (hnm : (xh X).name = "<init>") (hR : RtN X q0 105 m 1772) (hkp : Kpp 105 q0 q) (e0 : q.1 0 0 = a0) (hm : Rnn (xP X) q (m.1 + 745, m.2 + 816078)) (hl : lv_has ls 2 [(0, .ref a0)]) : WN X q 191 547 ls [] := by
  refine nn_aload_n (pc := 547) g.1 d_Mo_init_547 rfl (lv_at hl 0 rfl) ?_
  refine nn_new (pc := 548) (r := 10) (i := 0) (m := (m.1 + 744, m.2 + 816075)) g.gn (cl_Va (i := 0) (Or.inl ⟨by decide, rfl⟩)) (by unfold dvC; decide +kernel) ⟨rfl, by decide, by decide⟩ (by decide +kernel) (hm.le (by dsimp only; omega) (by have z : nfF 10 = 3 := rfl; dsimp only; omega)) kn_143 kn_144 kn_145 d_Mo_init_548 fun q548 a10 hk e10 hm => ?_
  have e0 : q548.1 0 0 = a0 := (hk 0 0 ⟨⟨rfl, by decide, by decide⟩, by decide +kernel⟩).trans e0
  have hkp := hkp.tr hk (by decide)
  refine nn_dup (pc := 551) g.1 d_Mo_init_551 rfl ?_
  refine nn_sipush (pc := 552) g.1 (v := 400) d_Mo_init_552 (by decide) ?_
  refine nn_call (pc := 555) (rest := [.ref a10, .ref a0]) (m := (m.1 + 742, m.2 + 815275)) (As := [.int 400]) g.gn ci_Va_init (Or.inl kn_152) (cn_Va_10 (hm.le (by dsimp only; omega) (by dsimp only; omega)) e10) (hm.le (by dsimp only; omega) (by dsimp only; omega)) ⟨by decide, by decide⟩ rfl hl.1 (Nat.le_of_ble_eq_true rfl) d_Mo_init_555 rfl fun q555 hk hm => ?_
  have e0 : q555.1 0 0 = a0 := (hk 0 0 ⟨⟨rfl, by decide, by decide⟩, by decide +kernel⟩).trans e0
  have e10 : q555.1 10 0 = a10 := (hk 10 0 ⟨⟨rfl, by decide, by decide⟩, by decide +kernel⟩).trans e10
  have hkp := hkp.tr hk (by decide)
  refine nn_put (pc := 558) (r := 0) (k := 78) (n' := 197) g cl_Mo ⟨⟨rfl, by decide, by decide⟩, by decide +kernel⟩ (by decide) (Or.inl kn_213) (Or.inr ⟨rfl, hnm, rfl, kn_213⟩) e0 rfl rfl (Or.inl ⟨(by decide +kernel), rfl, (fvR rfl rfl e10)⟩) d_Mo_init_558 ?_
  refine nn_aload_n (pc := 561) g.1 d_Mo_init_561 rfl (lv_at hl 0 rfl) ?_
  refine nn_new (pc := 562) (r := 13) (i := 0) (m := (m.1 + 741, m.2 + 815272)) g.gn (cl_Va (i := 0) (Or.inl ⟨by decide, rfl⟩)) (by unfold dvC; decide +kernel) ⟨rfl, by decide, by decide⟩ (by decide +kernel) (hm.le (by dsimp only; omega) (by have z : nfF 13 = 3 := rfl; dsimp only; omega)) kn_143 kn_144 kn_145 d_Mo_init_562 fun q562 a13 hk e13 hm => ?_
  have e0 : q562.1 0 0 = a0 := (hk 0 0 ⟨⟨rfl, by decide, by decide⟩, by decide +kernel⟩).trans e0
  have e10 : q562.1 10 0 = a10 := (hk 10 0 ⟨⟨rfl, by decide, by decide⟩, by decide +kernel⟩).trans e10
  have hkp := hkp.tr hk (by decide)
  refine nn_dup (pc := 565) g.1 d_Mo_init_565 rfl ?_
  refine nn_sipush (pc := 566) g.1 (v := 400) d_Mo_init_566 (by decide) ?_
  refine nn_call (pc := 569) (rest := [.ref a13, .ref a0]) (m := (m.1 + 739, m.2 + 814472)) (As := [.int 400]) g.gn ci_Va_init (Or.inl kn_152) (cn_Va_13 (hm.le (by dsimp only; omega) (by dsimp only; omega)) e13) (hm.le (by dsimp only; omega) (by dsimp only; omega)) ⟨by decide, by decide⟩ rfl hl.1 (Nat.le_of_ble_eq_true rfl) d_Mo_init_569 rfl fun q569 hk hm => ?_
  have e0 : q569.1 0 0 = a0 := (hk 0 0 ⟨⟨rfl, by decide, by decide⟩, by decide +kernel⟩).trans e0
  have e10 : q569.1 10 0 = a10 := (hk 10 0 ⟨⟨rfl, by decide, by decide⟩, by decide +kernel⟩).trans e10
  have e13 : q569.1 13 0 = a13 := (hk 13 0 ⟨⟨rfl, by decide, by decide⟩, by decide +kernel⟩).trans e13
  have hkp := hkp.tr hk (by decide)
  refine nn_put (pc := 572) (r := 0) (k := 79) (n' := 203) g cl_Mo ⟨⟨rfl, by decide, by decide⟩, by decide +kernel⟩ (by decide) (Or.inl kn_214) (Or.inr ⟨rfl, hnm, rfl, kn_214⟩) e0 rfl rfl (Or.inl ⟨(by decide +kernel), rfl, (fvR rfl rfl e13)⟩) d_Mo_init_572 ?_
  refine nn_aload_n (pc := 575) g.1 d_Mo_init_575 rfl (lv_at hl 0 rfl) ?_
  refine nn_iconst (pc := 576) g.1 (v := 0) d_Mo_init_576 (by decide) ?_
  refine nn_put (pc := 577) (r := 0) (k := 80) (n' := 203) g cl_Mo ⟨⟨rfl, by decide, by decide⟩, by decide +kernel⟩ (by decide) (Or.inl kn_215) (Or.inl rfl) e0 rfl rfl (Or.inr ⟨rfl, fN_dv (Or.inr ⟨by decide +kernel, (by decide), (fvI rfl rfl)⟩)⟩) d_Mo_init_577 ?_
  refine nn_aload_n (pc := 580) g.1 d_Mo_init_580 rfl (lv_at hl 0 rfl) ?_
  refine nn_lconst (pc := 581) g.1 (v := 0) d_Mo_init_581 (by decide) ?_
  refine nn_put (pc := 582) (r := 0) (k := 81) (n' := 203) g cl_Mo ⟨⟨rfl, by decide, by decide⟩, by decide +kernel⟩ (by decide) (Or.inl kn_216) (Or.inl rfl) e0 rfl rfl (Or.inr ⟨rfl, fN_dv (Or.inr ⟨by decide +kernel, (by decide), rfl⟩)⟩) d_Mo_init_582 ?_
  refine nn_aload_n (pc := 585) g.1 d_Mo_init_585 rfl (lv_at hl 0 rfl) ?_
  refine nn_bipush (pc := 586) g.1 (v := 64) d_Mo_init_586 (by decide) ?_
  refine nn_arr (pc := 588) (r := 77) (i := 0) (N := 64) (at0 := .int) (m := (m.1 + 738, m.2 + 814408)) g.gn rfl (by decide) ⟨rfl, by decide, by decide⟩ (by decide +kernel) (by decide) rfl (by decide) (by decide) (hm.le (by dsimp only; omega) (by dsimp only; omega)) kn_9 d_Mo_init_588 fun q588 a77 hk e77 hm => ?_
  have e0 : q588.1 0 0 = a0 := (hk 0 0 ⟨⟨rfl, by decide, by decide⟩, by decide +kernel⟩).trans e0
  have e10 : q588.1 10 0 = a10 := (hk 10 0 ⟨⟨rfl, by decide, by decide⟩, by decide +kernel⟩).trans e10
  have e13 : q588.1 13 0 = a13 := (hk 13 0 ⟨⟨rfl, by decide, by decide⟩, by decide +kernel⟩).trans e13
  have hkp := hkp.tr hk (by decide)
  refine nn_put (pc := 590) (r := 0) (k := 82) (n' := 205) g cl_Mo ⟨⟨rfl, by decide, by decide⟩, by decide +kernel⟩ (by decide) (Or.inl kn_217) (Or.inr ⟨rfl, hnm, rfl, kn_217⟩) e0 rfl rfl (Or.inl ⟨(by decide +kernel), rfl, (fvR rfl rfl e77)⟩) d_Mo_init_590 ?_
  refine nn_aload_n (pc := 593) g.1 d_Mo_init_593 rfl (lv_at hl 0 rfl) ?_
  refine nn_bipush (pc := 594) g.1 (v := 24) d_Mo_init_594 (by decide) ?_
  refine nn_anew (pc := 596) (r := 78) (i := 0) (N := 24) (m := (m.1 + 737, m.2 + 814384)) g.gn (by decide) ⟨rfl, by decide, by decide⟩ (by decide +kernel) (by decide) rfl (by decide) (by decide) (fun j hj => hz_78 j hj) (hm.le (by dsimp only; omega) (by dsimp only; omega)) kn_218 kxn_7 d_Mo_init_596 fun q596 a78 hk e78 hm => ?_
  have e0 : q596.1 0 0 = a0 := (hk 0 0 ⟨⟨rfl, by decide, by decide⟩, by decide +kernel⟩).trans e0
  have e10 : q596.1 10 0 = a10 := (hk 10 0 ⟨⟨rfl, by decide, by decide⟩, by decide +kernel⟩).trans e10
  have e13 : q596.1 13 0 = a13 := (hk 13 0 ⟨⟨rfl, by decide, by decide⟩, by decide +kernel⟩).trans e13
  have e77 : q596.1 77 0 = a77 := (hk 77 0 ⟨⟨rfl, by decide, by decide⟩, by decide +kernel⟩).trans e77
  have hkp := hkp.tr hk (by decide)
  refine nn_dup (pc := 599) g.1 d_Mo_init_599 rfl ?_
  refine nn_iconst (pc := 600) g.1 (v := 0) d_Mo_init_600 (by decide) ?_
  refine nn_ldcwS (pc := 601) (t := 0) g.gn (by decide) rfl rfl d_Mo_init_601 ?_
  refine nn_aast (j := 0) (pc := 604) (r := 78) (f := 178000) (fi := 0) g.gn ⟨⟨rfl, by decide, by decide⟩, by decide +kernel⟩ e78 (by decide) (fun H locs _ hS => any_S g.gn (by decide) H locs hS) (by decide) (by decide) (by decide) (Or.inl ⟨rfl, rfl, rfl, rfl, by decide, by decide⟩) (by decide +kernel) d_Mo_init_604 ?_
  refine nn_dup (pc := 605) g.1 d_Mo_init_605 rfl ?_
  refine nn_iconst (pc := 606) g.1 (v := 1) d_Mo_init_606 (by decide) ?_
  refine nn_ldcwS (pc := 607) (t := 1) g.gn (by decide) rfl rfl d_Mo_init_607 ?_
  refine nn_aast (j := 1) (pc := 610) (r := 78) (f := 178001) (fi := 0) g.gn ⟨⟨rfl, by decide, by decide⟩, by decide +kernel⟩ e78 (by decide) (fun H locs _ hS => any_S g.gn (by decide) H locs hS) (by decide) (by decide) (by decide) (Or.inl ⟨rfl, rfl, rfl, rfl, by decide, by decide⟩) (by decide +kernel) d_Mo_init_610 ?_
  refine nn_dup (pc := 611) g.1 d_Mo_init_611 rfl ?_
  refine nn_iconst (pc := 612) g.1 (v := 2) d_Mo_init_612 (by decide) ?_
  refine nn_ldcwS (pc := 613) (t := 2) g.gn (by decide) rfl rfl d_Mo_init_613 ?_
  refine nn_aast (j := 2) (pc := 616) (r := 78) (f := 178002) (fi := 0) g.gn ⟨⟨rfl, by decide, by decide⟩, by decide +kernel⟩ e78 (by decide) (fun H locs _ hS => any_S g.gn (by decide) H locs hS) (by decide) (by decide) (by decide) (Or.inl ⟨rfl, rfl, rfl, rfl, by decide, by decide⟩) (by decide +kernel) d_Mo_init_616 ?_
  refine nn_dup (pc := 617) g.1 d_Mo_init_617 rfl ?_
  refine nn_iconst (pc := 618) g.1 (v := 3) d_Mo_init_618 (by decide) ?_
  refine nn_ldcwS (pc := 619) (t := 3) g.gn (by decide) rfl rfl d_Mo_init_619 ?_
  refine nn_aast (j := 3) (pc := 622) (r := 78) (f := 178003) (fi := 0) g.gn ⟨⟨rfl, by decide, by decide⟩, by decide +kernel⟩ e78 (by decide) (fun H locs _ hS => any_S g.gn (by decide) H locs hS) (by decide) (by decide) (by decide) (Or.inl ⟨rfl, rfl, rfl, rfl, by decide, by decide⟩) (by decide +kernel) d_Mo_init_622 ?_
  refine nn_dup (pc := 623) g.1 d_Mo_init_623 rfl ?_
  refine nn_iconst (pc := 624) g.1 (v := 4) d_Mo_init_624 (by decide) ?_
  refine nn_ldcwS (pc := 625) (t := 4) g.gn (by decide) rfl rfl d_Mo_init_625 ?_
  refine nn_aast (j := 4) (pc := 628) (r := 78) (f := 178004) (fi := 0) g.gn ⟨⟨rfl, by decide, by decide⟩, by decide +kernel⟩ e78 (by decide) (fun H locs _ hS => any_S g.gn (by decide) H locs hS) (by decide) (by decide) (by decide) (Or.inl ⟨rfl, rfl, rfl, rfl, by decide, by decide⟩) (by decide +kernel) d_Mo_init_628 ?_
  refine nn_dup (pc := 629) g.1 d_Mo_init_629 rfl ?_
  refine nn_iconst (pc := 630) g.1 (v := 5) d_Mo_init_630 (by decide) ?_
  refine nn_ldcwS (pc := 631) (t := 5) g.gn (by decide) rfl rfl d_Mo_init_631 ?_
  refine nn_aast (j := 5) (pc := 634) (r := 78) (f := 178005) (fi := 0) g.gn ⟨⟨rfl, by decide, by decide⟩, by decide +kernel⟩ e78 (by decide) (fun H locs _ hS => any_S g.gn (by decide) H locs hS) (by decide) (by decide) (by decide) (Or.inl ⟨rfl, rfl, rfl, rfl, by decide, by decide⟩) (by decide +kernel) d_Mo_init_634 ?_
  refine nn_dup (pc := 635) g.1 d_Mo_init_635 rfl ?_
  refine nn_bipush (pc := 636) g.1 (v := 6) d_Mo_init_636 (by decide) ?_
  refine nn_ldcwS (pc := 638) (t := 6) g.gn (by decide) rfl rfl d_Mo_init_638 ?_
  refine nn_aast (j := 6) (pc := 641) (r := 78) (f := 178006) (fi := 0) g.gn ⟨⟨rfl, by decide, by decide⟩, by decide +kernel⟩ e78 (by decide) (fun H locs _ hS => any_S g.gn (by decide) H locs hS) (by decide) (by decide) (by decide) (Or.inl ⟨rfl, rfl, rfl, rfl, by decide, by decide⟩) (by decide +kernel) d_Mo_init_641 ?_
  refine nn_dup (pc := 642) g.1 d_Mo_init_642 rfl ?_
  refine nn_bipush (pc := 643) g.1 (v := 7) d_Mo_init_643 (by decide) ?_
  refine nn_ldcwS (pc := 645) (t := 7) g.gn (by decide) rfl rfl d_Mo_init_645 ?_
  refine nn_aast (j := 7) (pc := 648) (r := 78) (f := 178007) (fi := 0) g.gn ⟨⟨rfl, by decide, by decide⟩, by decide +kernel⟩ e78 (by decide) (fun H locs _ hS => any_S g.gn (by decide) H locs hS) (by decide) (by decide) (by decide) (Or.inl ⟨rfl, rfl, rfl, rfl, by decide, by decide⟩) (by decide +kernel) d_Mo_init_648 ?_
  refine nn_dup (pc := 649) g.1 d_Mo_init_649 rfl ?_
  refine nn_bipush (pc := 650) g.1 (v := 8) d_Mo_init_650 (by decide) ?_
  refine nn_ldcwS (pc := 652) (t := 8) g.gn (by decide) rfl rfl d_Mo_init_652 ?_
  refine nn_aast (j := 8) (pc := 655) (r := 78) (f := 178008) (fi := 0) g.gn ⟨⟨rfl, by decide, by decide⟩, by decide +kernel⟩ e78 (by decide) (fun H locs _ hS => any_S g.gn (by decide) H locs hS) (by decide) (by decide) (by decide) (Or.inl ⟨rfl, rfl, rfl, rfl, by decide, by decide⟩) (by decide +kernel) d_Mo_init_655 ?_
  refine nn_dup (pc := 656) g.1 d_Mo_init_656 rfl ?_
  refine nn_bipush (pc := 657) g.1 (v := 9) d_Mo_init_657 (by decide) ?_
  refine nn_ldcwS (pc := 659) (t := 9) g.gn (by decide) rfl rfl d_Mo_init_659 ?_
  refine nn_aast (j := 9) (pc := 662) (r := 78) (f := 178009) (fi := 0) g.gn ⟨⟨rfl, by decide, by decide⟩, by decide +kernel⟩ e78 (by decide) (fun H locs _ hS => any_S g.gn (by decide) H locs hS) (by decide) (by decide) (by decide) (Or.inl ⟨rfl, rfl, rfl, rfl, by decide, by decide⟩) (by decide +kernel) d_Mo_init_662 ?_
  refine nn_dup (pc := 663) g.1 d_Mo_init_663 rfl ?_
  refine nn_bipush (pc := 664) g.1 (v := 10) d_Mo_init_664 (by decide) ?_
  refine nn_ldcwS (pc := 666) (t := 10) g.gn (by decide) rfl rfl d_Mo_init_666 ?_
  refine nn_aast (j := 10) (pc := 669) (r := 78) (f := 178010) (fi := 0) g.gn ⟨⟨rfl, by decide, by decide⟩, by decide +kernel⟩ e78 (by decide) (fun H locs _ hS => any_S g.gn (by decide) H locs hS) (by decide) (by decide) (by decide) (Or.inl ⟨rfl, rfl, rfl, rfl, by decide, by decide⟩) (by decide +kernel) d_Mo_init_669 ?_
  refine nn_dup (pc := 670) g.1 d_Mo_init_670 rfl ?_
  refine nn_bipush (pc := 671) g.1 (v := 11) d_Mo_init_671 (by decide) ?_
  refine nn_ldcwS (pc := 673) (t := 11) g.gn (by decide) rfl rfl d_Mo_init_673 ?_
  refine nn_aast (j := 11) (pc := 676) (r := 78) (f := 178011) (fi := 0) g.gn ⟨⟨rfl, by decide, by decide⟩, by decide +kernel⟩ e78 (by decide) (fun H locs _ hS => any_S g.gn (by decide) H locs hS) (by decide) (by decide) (by decide) (Or.inl ⟨rfl, rfl, rfl, rfl, by decide, by decide⟩) (by decide +kernel) d_Mo_init_676 ?_
  refine nn_dup (pc := 677) g.1 d_Mo_init_677 rfl ?_
  refine nn_bipush (pc := 678) g.1 (v := 12) d_Mo_init_678 (by decide) ?_
  refine nn_ldcwS (pc := 680) (t := 12) g.gn (by decide) rfl rfl d_Mo_init_680 ?_
  refine nn_aast (j := 12) (pc := 683) (r := 78) (f := 178012) (fi := 0) g.gn ⟨⟨rfl, by decide, by decide⟩, by decide +kernel⟩ e78 (by decide) (fun H locs _ hS => any_S g.gn (by decide) H locs hS) (by decide) (by decide) (by decide) (Or.inl ⟨rfl, rfl, rfl, rfl, by decide, by decide⟩) (by decide +kernel) d_Mo_init_683 ?_
  refine nn_dup (pc := 684) g.1 d_Mo_init_684 rfl ?_
  refine nn_bipush (pc := 685) g.1 (v := 13) d_Mo_init_685 (by decide) ?_
  refine nn_ldcwS (pc := 687) (t := 13) g.gn (by decide) rfl rfl d_Mo_init_687 ?_
  refine nn_aast (j := 13) (pc := 690) (r := 78) (f := 178013) (fi := 0) g.gn ⟨⟨rfl, by decide, by decide⟩, by decide +kernel⟩ e78 (by decide) (fun H locs _ hS => any_S g.gn (by decide) H locs hS) (by decide) (by decide) (by decide) (Or.inl ⟨rfl, rfl, rfl, rfl, by decide, by decide⟩) (by decide +kernel) d_Mo_init_690 ?_
  refine nn_dup (pc := 691) g.1 d_Mo_init_691 rfl ?_
  refine nn_bipush (pc := 692) g.1 (v := 14) d_Mo_init_692 (by decide) ?_
  refine nn_ldcwS (pc := 694) (t := 14) g.gn (by decide) rfl rfl d_Mo_init_694 ?_
  refine nn_aast (j := 14) (pc := 697) (r := 78) (f := 178014) (fi := 0) g.gn ⟨⟨rfl, by decide, by decide⟩, by decide +kernel⟩ e78 (by decide) (fun H locs _ hS => any_S g.gn (by decide) H locs hS) (by decide) (by decide) (by decide) (Or.inl ⟨rfl, rfl, rfl, rfl, by decide, by decide⟩) (by decide +kernel) d_Mo_init_697 ?_
  refine nn_dup (pc := 698) g.1 d_Mo_init_698 rfl ?_
  refine nn_bipush (pc := 699) g.1 (v := 15) d_Mo_init_699 (by decide) ?_
  refine nn_ldcwS (pc := 701) (t := 15) g.gn (by decide) rfl rfl d_Mo_init_701 ?_
  refine nn_aast (j := 15) (pc := 704) (r := 78) (f := 178015) (fi := 0) g.gn ⟨⟨rfl, by decide, by decide⟩, by decide +kernel⟩ e78 (by decide) (fun H locs _ hS => any_S g.gn (by decide) H locs hS) (by decide) (by decide) (by decide) (Or.inl ⟨rfl, rfl, rfl, rfl, by decide, by decide⟩) (by decide +kernel) d_Mo_init_704 ?_
  refine nn_dup (pc := 705) g.1 d_Mo_init_705 rfl ?_
  refine nn_bipush (pc := 706) g.1 (v := 16) d_Mo_init_706 (by decide) ?_
  refine nn_ldcwS (pc := 708) (t := 16) g.gn (by decide) rfl rfl d_Mo_init_708 ?_
  refine nn_aast (j := 16) (pc := 711) (r := 78) (f := 178016) (fi := 0) g.gn ⟨⟨rfl, by decide, by decide⟩, by decide +kernel⟩ e78 (by decide) (fun H locs _ hS => any_S g.gn (by decide) H locs hS) (by decide) (by decide) (by decide) (Or.inl ⟨rfl, rfl, rfl, rfl, by decide, by decide⟩) (by decide +kernel) d_Mo_init_711 ?_
  refine nn_dup (pc := 712) g.1 d_Mo_init_712 rfl ?_
  refine nn_bipush (pc := 713) g.1 (v := 17) d_Mo_init_713 (by decide) ?_
  refine nn_ldcwS (pc := 715) (t := 17) g.gn (by decide) rfl rfl d_Mo_init_715 ?_
  refine nn_aast (j := 17) (pc := 718) (r := 78) (f := 178017) (fi := 0) g.gn ⟨⟨rfl, by decide, by decide⟩, by decide +kernel⟩ e78 (by decide) (fun H locs _ hS => any_S g.gn (by decide) H locs hS) (by decide) (by decide) (by decide) (Or.inl ⟨rfl, rfl, rfl, rfl, by decide, by decide⟩) (by decide +kernel) d_Mo_init_718 ?_
  refine nn_dup (pc := 719) g.1 d_Mo_init_719 rfl ?_
  refine nn_bipush (pc := 720) g.1 (v := 18) d_Mo_init_720 (by decide) ?_
  refine nn_ldcwS (pc := 722) (t := 18) g.gn (by decide) rfl rfl d_Mo_init_722 ?_
  refine nn_aast (j := 18) (pc := 725) (r := 78) (f := 178018) (fi := 0) g.gn ⟨⟨rfl, by decide, by decide⟩, by decide +kernel⟩ e78 (by decide) (fun H locs _ hS => any_S g.gn (by decide) H locs hS) (by decide) (by decide) (by decide) (Or.inl ⟨rfl, rfl, rfl, rfl, by decide, by decide⟩) (by decide +kernel) d_Mo_init_725 ?_
  refine nn_dup (pc := 726) g.1 d_Mo_init_726 rfl ?_
  refine nn_bipush (pc := 727) g.1 (v := 19) d_Mo_init_727 (by decide) ?_
  refine nn_ldcwS (pc := 729) (t := 19) g.gn (by decide) rfl rfl d_Mo_init_729 ?_
  refine nn_aast (j := 19) (pc := 732) (r := 78) (f := 178019) (fi := 0) g.gn ⟨⟨rfl, by decide, by decide⟩, by decide +kernel⟩ e78 (by decide) (fun H locs _ hS => any_S g.gn (by decide) H locs hS) (by decide) (by decide) (by decide) (Or.inl ⟨rfl, rfl, rfl, rfl, by decide, by decide⟩) (by decide +kernel) d_Mo_init_732 ?_
  refine nn_dup (pc := 733) g.1 d_Mo_init_733 rfl ?_
  refine nn_bipush (pc := 734) g.1 (v := 20) d_Mo_init_734 (by decide) ?_
  refine nn_ldcwS (pc := 736) (t := 20) g.gn (by decide) rfl rfl d_Mo_init_736 ?_
  refine nn_aast (j := 20) (pc := 739) (r := 78) (f := 178020) (fi := 0) g.gn ⟨⟨rfl, by decide, by decide⟩, by decide +kernel⟩ e78 (by decide) (fun H locs _ hS => any_S g.gn (by decide) H locs hS) (by decide) (by decide) (by decide) (Or.inl ⟨rfl, rfl, rfl, rfl, by decide, by decide⟩) (by decide +kernel) d_Mo_init_739 ?_
  refine nn_dup (pc := 740) g.1 d_Mo_init_740 rfl ?_
  refine nn_bipush (pc := 741) g.1 (v := 21) d_Mo_init_741 (by decide) ?_
  refine nn_ldcwS (pc := 743) (t := 21) g.gn (by decide) rfl rfl d_Mo_init_743 ?_
  refine nn_aast (j := 21) (pc := 746) (r := 78) (f := 178021) (fi := 0) g.gn ⟨⟨rfl, by decide, by decide⟩, by decide +kernel⟩ e78 (by decide) (fun H locs _ hS => any_S g.gn (by decide) H locs hS) (by decide) (by decide) (by decide) (Or.inl ⟨rfl, rfl, rfl, rfl, by decide, by decide⟩) (by decide +kernel) d_Mo_init_746 ?_
  refine nn_dup (pc := 747) g.1 d_Mo_init_747 rfl ?_
  refine nn_bipush (pc := 748) g.1 (v := 22) d_Mo_init_748 (by decide) ?_
  refine nn_ldcwS (pc := 750) (t := 22) g.gn (by decide) rfl rfl d_Mo_init_750 ?_
  refine nn_aast (j := 22) (pc := 753) (r := 78) (f := 178022) (fi := 0) g.gn ⟨⟨rfl, by decide, by decide⟩, by decide +kernel⟩ e78 (by decide) (fun H locs _ hS => any_S g.gn (by decide) H locs hS) (by decide) (by decide) (by decide) (Or.inl ⟨rfl, rfl, rfl, rfl, by decide, by decide⟩) (by decide +kernel) d_Mo_init_753 ?_
  refine nn_dup (pc := 754) g.1 d_Mo_init_754 rfl ?_
  refine nn_bipush (pc := 755) g.1 (v := 23) d_Mo_init_755 (by decide) ?_
  refine nn_ldcwS (pc := 757) (t := 23) g.gn (by decide) rfl rfl d_Mo_init_757 ?_
  refine nn_aast (j := 23) (pc := 760) (r := 78) (f := 178023) (fi := 0) g.gn ⟨⟨rfl, by decide, by decide⟩, by decide +kernel⟩ e78 (by decide) (fun H locs _ hS => any_S g.gn (by decide) H locs hS) (by decide) (by decide) (by decide) (Or.inl ⟨rfl, rfl, rfl, rfl, by decide, by decide⟩) (by decide +kernel) d_Mo_init_760 ?_
  refine nn_put (pc := 761) (r := 0) (k := 83) (n' := 231) g cl_Mo ⟨⟨rfl, by decide, by decide⟩, by decide +kernel⟩ (by decide) (Or.inl kn_219) (Or.inr ⟨rfl, hnm, rfl, kn_219⟩) e0 rfl rfl (Or.inl ⟨(by decide +kernel), rfl, (fvR rfl rfl e78)⟩) d_Mo_init_761 ?_
  exact mo_s9 g hnm hR hkp e0 hm hl
theorem mo_s7 {X : Cx} {q0 q : PL} {ls : Array Slot} {a0 : Nat} {m : Nat × Nat} (g : Gd X y_Mo_init b_Mo_init 2 none 4 81 R_Mo) (hnm : (xh X).name = "<init>") (hR : RtN X q0 105 m 1772) (hkp : Kpp 105 q0 q) (e0 : q.1 0 0 = a0) (hm : Rnn (xP X) q (m.1 + 753, m.2 + 821145)) (hl : lv_has ls 2 [(0, .ref a0)]) : WN X q 174 457 ls [] := by
  refine nn_aload_n (pc := 457) g.1 d_Mo_init_457 rfl (lv_at hl 0 rfl) ?_
  refine nn_lconst (pc := 458) g.1 (v := 0) d_Mo_init_458 (by decide) ?_
  refine nn_put (pc := 459) (r := 0) (k := 65) (n' := 174) g cl_Mo ⟨⟨rfl, by decide, by decide⟩, by decide +kernel⟩ (by decide) (Or.inl kn_199) (Or.inl rfl) e0 rfl rfl (Or.inr ⟨rfl, fN_dv (Or.inr ⟨by decide +kernel, (by decide), rfl⟩)⟩) d_Mo_init_459 ?_
  refine nn_aload_n (pc := 462) g.1 d_Mo_init_462 rfl (lv_at hl 0 rfl) ?_
  refine nn_iconst (pc := 463) g.1 (v := 0) d_Mo_init_463 (by decide) ?_
  refine nn_put (pc := 464) (r := 0) (k := 66) (n' := 174) g cl_Mo ⟨⟨rfl, by decide, by decide⟩, by decide +kernel⟩ (by decide) (Or.inl kn_200) (Or.inl rfl) e0 rfl rfl (Or.inr ⟨rfl, fN_dv (Or.inr ⟨by decide +kernel, (by decide), (fvI rfl rfl)⟩)⟩) d_Mo_init_464 ?_
  refine nn_aload_n (pc := 467) g.1 d_Mo_init_467 rfl (lv_at hl 0 rfl) ?_
  refine nn_lconst (pc := 468) g.1 (v := 0) d_Mo_init_468 (by decide) ?_
  refine nn_put (pc := 469) (r := 0) (k := 67) (n' := 174) g cl_Mo ⟨⟨rfl, by decide, by decide⟩, by decide +kernel⟩ (by decide) (Or.inl kn_201) (Or.inl rfl) e0 rfl rfl (Or.inr ⟨rfl, fN_dv (Or.inr ⟨by decide +kernel, (by decide), rfl⟩)⟩) d_Mo_init_469 ?_
  refine nn_aload_n (pc := 472) g.1 d_Mo_init_472 rfl (lv_at hl 0 rfl) ?_
  refine nn_sipush (pc := 473) g.1 (v := 4100) d_Mo_init_473 (by decide) ?_
  refine nn_arr (pc := 476) (r := 75) (i := 0) (N := 4100) (at0 := .int) (m := (m.1 + 752, m.2 + 817045)) g.gn rfl (by decide) ⟨rfl, by decide, by decide⟩ (by decide +kernel) (by decide) rfl (by decide) (by decide) (hm.le (by dsimp only; omega) (by dsimp only; omega)) kn_9 d_Mo_init_476 fun q476 a75 hk e75 hm => ?_
  have e0 : q476.1 0 0 = a0 := (hk 0 0 ⟨⟨rfl, by decide, by decide⟩, by decide +kernel⟩).trans e0
  have hkp := hkp.tr hk (by decide)
  refine nn_put (pc := 478) (r := 0) (k := 68) (n' := 176) g cl_Mo ⟨⟨rfl, by decide, by decide⟩, by decide +kernel⟩ (by decide) (Or.inl kn_202) (Or.inr ⟨rfl, hnm, rfl, kn_202⟩) e0 rfl rfl (Or.inl ⟨(by decide +kernel), rfl, (fvR rfl rfl e75)⟩) d_Mo_init_478 ?_
  refine nn_aload_n (pc := 481) g.1 d_Mo_init_481 rfl (lv_at hl 0 rfl) ?_
  refine nn_iconst (pc := 482) g.1 (v := 0) d_Mo_init_482 (by decide) ?_
  refine nn_put (pc := 483) (r := 0) (k := 69) (n' := 176) g cl_Mo ⟨⟨rfl, by decide, by decide⟩, by decide +kernel⟩ (by decide) (Or.inl kn_203) (Or.inl rfl) e0 rfl rfl (Or.inr ⟨rfl, fN_dv (Or.inr ⟨by decide +kernel, (by decide), (fvI rfl rfl)⟩)⟩) d_Mo_init_483 ?_
  refine nn_aload_n (pc := 486) g.1 d_Mo_init_486 rfl (lv_at hl 0 rfl) ?_
  refine nn_new (pc := 487) (r := 16) (i := 0) (m := (m.1 + 751, m.2 + 817042)) g.gn (cl_Va (i := 0) (Or.inl ⟨by decide, rfl⟩)) (by unfold dvC; decide +kernel) ⟨rfl, by decide, by decide⟩ (by decide +kernel) (hm.le (by dsimp only; omega) (by have z : nfF 16 = 3 := rfl; dsimp only; omega)) kn_143 kn_144 kn_145 d_Mo_init_487 fun q487 a16 hk e16 hm => ?_
  have e0 : q487.1 0 0 = a0 := (hk 0 0 ⟨⟨rfl, by decide, by decide⟩, by decide +kernel⟩).trans e0
  have e75 : q487.1 75 0 = a75 := (hk 75 0 ⟨⟨rfl, by decide, by decide⟩, by decide +kernel⟩).trans e75
  have hkp := hkp.tr hk (by decide)
  refine nn_dup (pc := 490) g.1 d_Mo_init_490 rfl ?_
  refine nn_bipush (pc := 491) g.1 (v := 64) d_Mo_init_491 (by decide) ?_
  refine nn_call (pc := 493) (rest := [.ref a16, .ref a0]) (m := (m.1 + 749, m.2 + 816914)) (As := [.int 64]) g.gn ci_Va_init (Or.inl kn_152) (cn_Va_16 (hm.le (by dsimp only; omega) (by dsimp only; omega)) e16) (hm.le (by dsimp only; omega) (by dsimp only; omega)) ⟨by decide, by decide⟩ rfl hl.1 (Nat.le_of_ble_eq_true rfl) d_Mo_init_493 rfl fun q493 hk hm => ?_
  have e0 : q493.1 0 0 = a0 := (hk 0 0 ⟨⟨rfl, by decide, by decide⟩, by decide +kernel⟩).trans e0
  have e75 : q493.1 75 0 = a75 := (hk 75 0 ⟨⟨rfl, by decide, by decide⟩, by decide +kernel⟩).trans e75
  have e16 : q493.1 16 0 = a16 := (hk 16 0 ⟨⟨rfl, by decide, by decide⟩, by decide +kernel⟩).trans e16
  have hkp := hkp.tr hk (by decide)
  refine nn_put (pc := 496) (r := 0) (k := 70) (n' := 182) g cl_Mo ⟨⟨rfl, by decide, by decide⟩, by decide +kernel⟩ (by decide) (Or.inl kn_204) (Or.inr ⟨rfl, hnm, rfl, kn_204⟩) e0 rfl rfl (Or.inl ⟨(by decide +kernel), rfl, (fvR rfl rfl e16)⟩) d_Mo_init_496 ?_
  refine nn_aload_n (pc := 499) g.1 d_Mo_init_499 rfl (lv_at hl 0 rfl) ?_
  refine nn_bipush (pc := 500) g.1 (v := 33) d_Mo_init_500 (by decide) ?_
  refine nn_anew (pc := 502) (r := 76) (i := 0) (N := 33) (m := (m.1 + 748, m.2 + 816881)) g.gn (by decide) ⟨rfl, by decide, by decide⟩ (by decide +kernel) (by decide) rfl (by decide) (by decide) (fun j hj => hz_76 j hj) (hm.le (by dsimp only; omega) (by dsimp only; omega)) kn_205 kxn_6 d_Mo_init_502 fun q502 a76 hk e76 hm => ?_
  have e0 : q502.1 0 0 = a0 := (hk 0 0 ⟨⟨rfl, by decide, by decide⟩, by decide +kernel⟩).trans e0
  have e75 : q502.1 75 0 = a75 := (hk 75 0 ⟨⟨rfl, by decide, by decide⟩, by decide +kernel⟩).trans e75
  have e16 : q502.1 16 0 = a16 := (hk 16 0 ⟨⟨rfl, by decide, by decide⟩, by decide +kernel⟩).trans e16
  have hkp := hkp.tr hk (by decide)
  refine nn_put (pc := 505) (r := 0) (k := 71) (n' := 184) g cl_Mo ⟨⟨rfl, by decide, by decide⟩, by decide +kernel⟩ (by decide) (Or.inl kn_206) (Or.inr ⟨rfl, hnm, rfl, kn_206⟩) e0 rfl rfl (Or.inl ⟨(by decide +kernel), rfl, (fvR rfl rfl e76)⟩) d_Mo_init_505 ?_
  refine nn_aload_n (pc := 508) g.1 d_Mo_init_508 rfl (lv_at hl 0 rfl) ?_
  refine nn_null (pc := 509) g.1 d_Mo_init_509 ?_
  refine nn_put (pc := 510) (r := 0) (k := 72) (n' := 184) g cl_Mo ⟨⟨rfl, by decide, by decide⟩, by decide +kernel⟩ (by decide) (Or.inl kn_207) (Or.inl rfl) e0 rfl rfl (Or.inr ⟨rfl, fN_dv (Or.inr ⟨by decide +kernel, (by decide), rfl⟩)⟩) d_Mo_init_510 ?_
  refine nn_aload_n (pc := 513) g.1 d_Mo_init_513 rfl (lv_at hl 0 rfl) ?_
  refine nn_iconst (pc := 514) g.1 (v := 0) d_Mo_init_514 (by decide) ?_
  refine nn_put (pc := 515) (r := 0) (k := 73) (n' := 184) g cl_Mo ⟨⟨rfl, by decide, by decide⟩, by decide +kernel⟩ (by decide) (Or.inl kn_208) (Or.inl rfl) e0 rfl rfl (Or.inr ⟨rfl, fN_dv (Or.inr ⟨by decide +kernel, (by decide), (fvI rfl rfl)⟩)⟩) d_Mo_init_515 ?_
  refine nn_aload_n (pc := 518) g.1 d_Mo_init_518 rfl (lv_at hl 0 rfl) ?_
  refine nn_iconst (pc := 519) g.1 (v := (-1)) d_Mo_init_519 (by decide) ?_
  refine nn_put (pc := 520) (r := 0) (k := 74) (n' := 185) g cl_Mo ⟨⟨rfl, by decide, by decide⟩, by decide +kernel⟩ (by decide) (Or.inl kn_209) (Or.inl rfl) e0 rfl rfl (Or.inl ⟨(by decide +kernel), rfl, (fvI rfl rfl)⟩) d_Mo_init_520 ?_
  refine nn_aload_n (pc := 523) g.1 d_Mo_init_523 rfl (lv_at hl 0 rfl) ?_
  refine nn_iconst (pc := 524) g.1 (v := 0) d_Mo_init_524 (by decide) ?_
  refine nn_put (pc := 525) (r := 0) (k := 75) (n' := 185) g cl_Mo ⟨⟨rfl, by decide, by decide⟩, by decide +kernel⟩ (by decide) (Or.inl kn_210) (Or.inl rfl) e0 rfl rfl (Or.inr ⟨rfl, fN_dv (Or.inr ⟨by decide +kernel, (by decide), (fvI rfl rfl)⟩)⟩) d_Mo_init_525 ?_
  refine nn_aload_n (pc := 528) g.1 d_Mo_init_528 rfl (lv_at hl 0 rfl) ?_
  refine nn_lconst (pc := 529) g.1 (v := 0) d_Mo_init_529 (by decide) ?_
  refine nn_put (pc := 530) (r := 0) (k := 76) (n' := 185) g cl_Mo ⟨⟨rfl, by decide, by decide⟩, by decide +kernel⟩ (by decide) (Or.inl kn_211) (Or.inl rfl) e0 rfl rfl (Or.inr ⟨rfl, fN_dv (Or.inr ⟨by decide +kernel, (by decide), rfl⟩)⟩) d_Mo_init_530 ?_
  refine nn_aload_n (pc := 533) g.1 d_Mo_init_533 rfl (lv_at hl 0 rfl) ?_
  refine nn_new (pc := 534) (r := 7) (i := 0) (m := (m.1 + 747, m.2 + 816878)) g.gn (cl_Va (i := 0) (Or.inl ⟨by decide, rfl⟩)) (by unfold dvC; decide +kernel) ⟨rfl, by decide, by decide⟩ (by decide +kernel) (hm.le (by dsimp only; omega) (by have z : nfF 7 = 3 := rfl; dsimp only; omega)) kn_143 kn_144 kn_145 d_Mo_init_534 fun q534 a7 hk e7 hm => ?_
  have e0 : q534.1 0 0 = a0 := (hk 0 0 ⟨⟨rfl, by decide, by decide⟩, by decide +kernel⟩).trans e0
  have e75 : q534.1 75 0 = a75 := (hk 75 0 ⟨⟨rfl, by decide, by decide⟩, by decide +kernel⟩).trans e75
  have e16 : q534.1 16 0 = a16 := (hk 16 0 ⟨⟨rfl, by decide, by decide⟩, by decide +kernel⟩).trans e16
  have e76 : q534.1 76 0 = a76 := (hk 76 0 ⟨⟨rfl, by decide, by decide⟩, by decide +kernel⟩).trans e76
  have hkp := hkp.tr hk (by decide)
  refine nn_dup (pc := 537) g.1 d_Mo_init_537 rfl ?_
  refine nn_sipush (pc := 538) g.1 (v := 400) d_Mo_init_538 (by decide) ?_
  refine nn_call (pc := 541) (rest := [.ref a7, .ref a0]) (m := (m.1 + 745, m.2 + 816078)) (As := [.int 400]) g.gn ci_Va_init (Or.inl kn_152) (cn_Va_7 (hm.le (by dsimp only; omega) (by dsimp only; omega)) e7) (hm.le (by dsimp only; omega) (by dsimp only; omega)) ⟨by decide, by decide⟩ rfl hl.1 (Nat.le_of_ble_eq_true rfl) d_Mo_init_541 rfl fun q541 hk hm => ?_
  have e0 : q541.1 0 0 = a0 := (hk 0 0 ⟨⟨rfl, by decide, by decide⟩, by decide +kernel⟩).trans e0
  have e75 : q541.1 75 0 = a75 := (hk 75 0 ⟨⟨rfl, by decide, by decide⟩, by decide +kernel⟩).trans e75
  have e16 : q541.1 16 0 = a16 := (hk 16 0 ⟨⟨rfl, by decide, by decide⟩, by decide +kernel⟩).trans e16
  have e76 : q541.1 76 0 = a76 := (hk 76 0 ⟨⟨rfl, by decide, by decide⟩, by decide +kernel⟩).trans e76
  have e7 : q541.1 7 0 = a7 := (hk 7 0 ⟨⟨rfl, by decide, by decide⟩, by decide +kernel⟩).trans e7
  have hkp := hkp.tr hk (by decide)
  refine nn_put (pc := 544) (r := 0) (k := 77) (n' := 191) g cl_Mo ⟨⟨rfl, by decide, by decide⟩, by decide +kernel⟩ (by decide) (Or.inl kn_212) (Or.inr ⟨rfl, hnm, rfl, kn_212⟩) e0 rfl rfl (Or.inl ⟨(by decide +kernel), rfl, (fvR rfl rfl e7)⟩) d_Mo_init_544 ?_
  exact mo_s8 g hnm hR hkp e0 hm hl
theorem mo_s6 {X : Cx} {q0 q : PL} {ls : Array Slot} {a0 : Nat} {m : Nat × Nat} (g : Gd X y_Mo_init b_Mo_init 2 none 4 81 R_Mo) (hnm : (xh X).name = "<init>") (hR : RtN X q0 105 m 1772) (hkp : Kpp 105 q0 q) (e0 : q.1 0 0 = a0) (hm : Rnn (xP X) q (m.1 + 759, m.2 + 1234472)) (hl : lv_has ls 2 [(0, .ref a0)]) : WN X q 162 377 ls [] := by
  refine nn_aload_n (pc := 377) g.1 d_Mo_init_377 rfl (lv_at hl 0 rfl) ?_
  refine nn_sipush (pc := 378) g.1 (v := 4100) d_Mo_init_378 (by decide) ?_
  refine nn_arr (pc := 381) (r := 66) (i := 0) (N := 4100) (at0 := .int) (m := (m.1 + 758, m.2 + 1230372)) g.gn rfl (by decide) ⟨rfl, by decide, by decide⟩ (by decide +kernel) (by decide) rfl (by decide) (by decide) (hm.le (by dsimp only; omega) (by dsimp only; omega)) kn_9 d_Mo_init_381 fun q381 a66 hk e66 hm => ?_
  have e0 : q381.1 0 0 = a0 := (hk 0 0 ⟨⟨rfl, by decide, by decide⟩, by decide +kernel⟩).trans e0
  have hkp := hkp.tr hk (by decide)
  refine nn_put (pc := 383) (r := 0) (k := 53) (n' := 164) g cl_Mo ⟨⟨rfl, by decide, by decide⟩, by decide +kernel⟩ (by decide) (Or.inl kn_186) (Or.inr ⟨rfl, hnm, rfl, kn_186⟩) e0 rfl rfl (Or.inl ⟨(by decide +kernel), rfl, (fvR rfl rfl e66)⟩) d_Mo_init_383 ?_
  refine nn_aload_n (pc := 386) g.1 d_Mo_init_386 rfl (lv_at hl 0 rfl) ?_
  refine nn_iconst (pc := 387) g.1 (v := 0) d_Mo_init_387 (by decide) ?_
  refine nn_put (pc := 388) (r := 0) (k := 54) (n' := 164) g cl_Mo ⟨⟨rfl, by decide, by decide⟩, by decide +kernel⟩ (by decide) (Or.inl kn_187) (Or.inl rfl) e0 rfl rfl (Or.inr ⟨rfl, fN_dv (Or.inr ⟨by decide +kernel, (by decide), (fvI rfl rfl)⟩)⟩) d_Mo_init_388 ?_
  refine nn_aload_n (pc := 391) g.1 d_Mo_init_391 rfl (lv_at hl 0 rfl) ?_
  refine nn_ldc (pc := 392) g.gn (v := 400000) kn_188 d_Mo_init_392 ?_
  refine nn_arr (pc := 394) (r := 67) (i := 0) (N := 400000) (at0 := .byte) (m := (m.1 + 757, m.2 + 830372)) g.gn rfl (by decide) ⟨rfl, by decide, by decide⟩ (by decide +kernel) (by decide) rfl (by decide) (by decide) (hm.le (by dsimp only; omega) (by dsimp only; omega)) kn_12 d_Mo_init_394 fun q394 a67 hk e67 hm => ?_
  have e0 : q394.1 0 0 = a0 := (hk 0 0 ⟨⟨rfl, by decide, by decide⟩, by decide +kernel⟩).trans e0
  have e66 : q394.1 66 0 = a66 := (hk 66 0 ⟨⟨rfl, by decide, by decide⟩, by decide +kernel⟩).trans e66
  have hkp := hkp.tr hk (by decide)
  refine nn_put (pc := 396) (r := 0) (k := 55) (n' := 166) g cl_Mo ⟨⟨rfl, by decide, by decide⟩, by decide +kernel⟩ (by decide) (Or.inl kn_189) (Or.inr ⟨rfl, hnm, rfl, kn_189⟩) e0 rfl rfl (Or.inl ⟨(by decide +kernel), rfl, (fvR rfl rfl e67)⟩) d_Mo_init_396 ?_
  refine nn_aload_n (pc := 399) g.1 d_Mo_init_399 rfl (lv_at hl 0 rfl) ?_
  refine nn_sipush (pc := 400) g.1 (v := 1024) d_Mo_init_400 (by decide) ?_
  refine nn_arr (pc := 403) (r := 68) (i := 0) (N := 1024) (at0 := .int) (m := (m.1 + 756, m.2 + 829348)) g.gn rfl (by decide) ⟨rfl, by decide, by decide⟩ (by decide +kernel) (by decide) rfl (by decide) (by decide) (hm.le (by dsimp only; omega) (by dsimp only; omega)) kn_9 d_Mo_init_403 fun q403 a68 hk e68 hm => ?_
  have e0 : q403.1 0 0 = a0 := (hk 0 0 ⟨⟨rfl, by decide, by decide⟩, by decide +kernel⟩).trans e0
  have e66 : q403.1 66 0 = a66 := (hk 66 0 ⟨⟨rfl, by decide, by decide⟩, by decide +kernel⟩).trans e66
  have e67 : q403.1 67 0 = a67 := (hk 67 0 ⟨⟨rfl, by decide, by decide⟩, by decide +kernel⟩).trans e67
  have hkp := hkp.tr hk (by decide)
  refine nn_put (pc := 405) (r := 0) (k := 56) (n' := 168) g cl_Mo ⟨⟨rfl, by decide, by decide⟩, by decide +kernel⟩ (by decide) (Or.inl kn_190) (Or.inr ⟨rfl, hnm, rfl, kn_190⟩) e0 rfl rfl (Or.inl ⟨(by decide +kernel), rfl, (fvR rfl rfl e68)⟩) d_Mo_init_405 ?_
  refine nn_aload_n (pc := 408) g.1 d_Mo_init_408 rfl (lv_at hl 0 rfl) ?_
  refine nn_null (pc := 409) g.1 d_Mo_init_409 ?_
  refine nn_put (pc := 410) (r := 0) (k := 57) (n' := 168) g cl_Mo ⟨⟨rfl, by decide, by decide⟩, by decide +kernel⟩ (by decide) (Or.inl kn_191) (Or.inl rfl) e0 rfl rfl (Or.inr ⟨rfl, fN_dv (Or.inr ⟨by decide +kernel, (by decide), rfl⟩)⟩) d_Mo_init_410 ?_
  refine nn_aload_n (pc := 413) g.1 d_Mo_init_413 rfl (lv_at hl 0 rfl) ?_
  refine nn_null (pc := 414) g.1 d_Mo_init_414 ?_
  refine nn_put (pc := 415) (r := 0) (k := 58) (n' := 168) g cl_Mo ⟨⟨rfl, by decide, by decide⟩, by decide +kernel⟩ (by decide) (Or.inl kn_192) (Or.inl rfl) e0 rfl rfl (Or.inr ⟨rfl, fN_dv (Or.inr ⟨by decide +kernel, (by decide), rfl⟩)⟩) d_Mo_init_415 ?_
  refine nn_aload_n (pc := 418) g.1 d_Mo_init_418 rfl (lv_at hl 0 rfl) ?_
  refine nn_null (pc := 419) g.1 d_Mo_init_419 ?_
  refine nn_put (pc := 420) (r := 0) (k := 59) (n' := 168) g cl_Mo ⟨⟨rfl, by decide, by decide⟩, by decide +kernel⟩ (by decide) (Or.inl kn_193) (Or.inl rfl) e0 rfl rfl (Or.inr ⟨rfl, fN_dv (Or.inr ⟨by decide +kernel, (by decide), rfl⟩)⟩) d_Mo_init_420 ?_
  refine nn_aload_n (pc := 423) g.1 d_Mo_init_423 rfl (lv_at hl 0 rfl) ?_
  refine nn_null (pc := 424) g.1 d_Mo_init_424 ?_
  refine nn_put (pc := 425) (r := 0) (k := 60) (n' := 168) g cl_Mo ⟨⟨rfl, by decide, by decide⟩, by decide +kernel⟩ (by decide) (Or.inl kn_194) (Or.inl rfl) e0 rfl rfl (Or.inr ⟨rfl, fN_dv (Or.inr ⟨by decide +kernel, (by decide), rfl⟩)⟩) d_Mo_init_425 ?_
  refine nn_aload_n (pc := 428) g.1 d_Mo_init_428 rfl (lv_at hl 0 rfl) ?_
  refine nn_null (pc := 429) g.1 d_Mo_init_429 ?_
  refine nn_put (pc := 430) (r := 0) (k := 61) (n' := 168) g cl_Mo ⟨⟨rfl, by decide, by decide⟩, by decide +kernel⟩ (by decide) (Or.inl kn_195) (Or.inl rfl) e0 rfl rfl (Or.inr ⟨rfl, fN_dv (Or.inr ⟨by decide +kernel, (by decide), rfl⟩)⟩) d_Mo_init_430 ?_
  refine nn_aload_n (pc := 433) g.1 d_Mo_init_433 rfl (lv_at hl 0 rfl) ?_
  refine nn_null (pc := 434) g.1 d_Mo_init_434 ?_
  refine nn_put (pc := 435) (r := 0) (k := 62) (n' := 168) g cl_Mo ⟨⟨rfl, by decide, by decide⟩, by decide +kernel⟩ (by decide) (Or.inl kn_196) (Or.inl rfl) e0 rfl rfl (Or.inr ⟨rfl, fN_dv (Or.inr ⟨by decide +kernel, (by decide), rfl⟩)⟩) d_Mo_init_435 ?_
  refine nn_aload_n (pc := 438) g.1 d_Mo_init_438 rfl (lv_at hl 0 rfl) ?_
  refine nn_new (pc := 439) (r := 4) (i := 0) (m := (m.1 + 755, m.2 + 829345)) g.gn (cl_Va (i := 0) (Or.inl ⟨by decide, rfl⟩)) (by unfold dvC; decide +kernel) ⟨rfl, by decide, by decide⟩ (by decide +kernel) (hm.le (by dsimp only; omega) (by have z : nfF 4 = 3 := rfl; dsimp only; omega)) kn_143 kn_144 kn_145 d_Mo_init_439 fun q439 a4 hk e4 hm => ?_
  have e0 : q439.1 0 0 = a0 := (hk 0 0 ⟨⟨rfl, by decide, by decide⟩, by decide +kernel⟩).trans e0
  have e66 : q439.1 66 0 = a66 := (hk 66 0 ⟨⟨rfl, by decide, by decide⟩, by decide +kernel⟩).trans e66
  have e67 : q439.1 67 0 = a67 := (hk 67 0 ⟨⟨rfl, by decide, by decide⟩, by decide +kernel⟩).trans e67
  have e68 : q439.1 68 0 = a68 := (hk 68 0 ⟨⟨rfl, by decide, by decide⟩, by decide +kernel⟩).trans e68
  have hkp := hkp.tr hk (by decide)
  refine nn_dup (pc := 442) g.1 d_Mo_init_442 rfl ?_
  refine nn_sipush (pc := 443) g.1 (v := 4100) d_Mo_init_443 (by decide) ?_
  refine nn_call (pc := 446) (rest := [.ref a4, .ref a0]) (m := (m.1 + 753, m.2 + 821145)) (As := [.int 4100]) g.gn ci_Va_init (Or.inl kn_152) (cn_Va_4 (hm.le (by dsimp only; omega) (by dsimp only; omega)) e4) (hm.le (by dsimp only; omega) (by dsimp only; omega)) ⟨by decide, by decide⟩ rfl hl.1 (Nat.le_of_ble_eq_true rfl) d_Mo_init_446 rfl fun q446 hk hm => ?_
  have e0 : q446.1 0 0 = a0 := (hk 0 0 ⟨⟨rfl, by decide, by decide⟩, by decide +kernel⟩).trans e0
  have e66 : q446.1 66 0 = a66 := (hk 66 0 ⟨⟨rfl, by decide, by decide⟩, by decide +kernel⟩).trans e66
  have e67 : q446.1 67 0 = a67 := (hk 67 0 ⟨⟨rfl, by decide, by decide⟩, by decide +kernel⟩).trans e67
  have e68 : q446.1 68 0 = a68 := (hk 68 0 ⟨⟨rfl, by decide, by decide⟩, by decide +kernel⟩).trans e68
  have e4 : q446.1 4 0 = a4 := (hk 4 0 ⟨⟨rfl, by decide, by decide⟩, by decide +kernel⟩).trans e4
  have hkp := hkp.tr hk (by decide)
  refine nn_put (pc := 449) (r := 0) (k := 63) (n' := 174) g cl_Mo ⟨⟨rfl, by decide, by decide⟩, by decide +kernel⟩ (by decide) (Or.inl kn_197) (Or.inr ⟨rfl, hnm, rfl, kn_197⟩) e0 rfl rfl (Or.inl ⟨(by decide +kernel), rfl, (fvR rfl rfl e4)⟩) d_Mo_init_449 ?_
  refine nn_aload_n (pc := 452) g.1 d_Mo_init_452 rfl (lv_at hl 0 rfl) ?_
  refine nn_iconst (pc := 453) g.1 (v := 0) d_Mo_init_453 (by decide) ?_
  refine nn_put (pc := 454) (r := 0) (k := 64) (n' := 174) g cl_Mo ⟨⟨rfl, by decide, by decide⟩, by decide +kernel⟩ (by decide) (Or.inl kn_198) (Or.inl rfl) e0 rfl rfl (Or.inr ⟨rfl, fN_dv (Or.inr ⟨by decide +kernel, (by decide), (fvI rfl rfl)⟩)⟩) d_Mo_init_454 ?_
  exact mo_s7 g hnm hR hkp e0 hm hl
