section LAWK
variable {p : Program} {l : Launch} {e : Env} {s : State} {m : MethodId} {below : List Frame} {meth : Method} {c : Code} {H : Heap} {locs : List Loc} {Q : State → Prop}
variable {b L : Nat} {ls : Array Slot} {xs : Nat → Int32} {x3 : Int32} {D : va_G} {cI cZ : ClassId} {aF aM : Nat → Nat} {AF AM : Nat → Prop} {t1 t2 : Nat} {u v : US}
set_option maxHeartbeats 4000000 in
set_option maxRecDepth 100000 in
theorem law_12 (C : LawC p s m c b L xs D cI cZ aF aM AF AM t1 t2) (hI : INV u v) (h : LawW s D cI cZ aF aM u v H locs) (hl : lv_has ls 4 [(0, .ref b), (1, .ref (aF 0)), (2, .ref (aM 0)), (3, .int x3)]) (h1 : vp_in (x3 + 1) L) (h2 : vp_in (x3 + 2) L) (h3 : vp_in (x3 + 3) L) (h4 : vp_in (x3 + 4) L)
    (kk : ∀ (u v : US) (H : Heap) (locs : List Loc), INV u v → LawW s D cI cZ aF aM u v H locs → W p l e room_1 s m #[Value.ref b] below meth c H locs 46 2969 Q (F0 m 925 ls [])) : W p l e room_1 s m #[Value.ref b] below meth c H locs 46 2969 Q (F0 m 606 ls []) := by
  obtain ⟨hx, hb, hml, hown, hts, hX, hbl, hK, hDF, hDM, hF0, hM0, hdis, hR⟩ := id C
  have hbA : ¬ (fun q : Nat => s.heap.size ≤ q) b := Nat.not_le.mpr hbl
  refine lv_aload_n hx hb dL_law_606 rfl (lv_at hl 1 rfl) ?_
  refine lv_aload_n hx hb dL_law_607 rfl (lv_at hl 0 rfl) ?_
  refine lv_iload_n hx hb dL_law_608 rfl (lv_at hl 3 rfl) ?_
  refine lv_iconst (v := (1 : Int32)) hx hb dL_law_609 (by decide) ?_
  refine lv_iadd hx hb dL_law_610 ?_
  refine va_sld hx hb hX hbl hbA h.2.2 h1 dL_law_611 ?_
  refine lawF (As := [.int (xs (x3 + (1 : Int32)).toNatClampNeg)]) (rest := []) C h (c_X5_dust l D cI cZ aF AF hDF (xs (x3 + (1 : Int32)).toNatClampNeg) u _ (i_dust hI (xs (x3 + (1 : Int32)).toNatClampNeg))) (cwV 1 hts gL_law_X5_dust rfl rfl rfl (by decide +kernel) ⟨Nat.le_of_ble_eq_true rfl, Nat.le_of_ble_eq_true rfl⟩) rfl hl.1 rfl (Nat.le_of_ble_eq_true rfl) dL_law_612 (fun r1 u h1_ w1 hq h => ?_)
  refine lv_aload_n hx hb dL_law_615 rfl (lv_at hl 2 rfl) ?_
  refine lv_aload_n hx hb dL_law_616 rfl (lv_at hl 0 rfl) ?_
  refine lv_iload_n hx hb dL_law_617 rfl (lv_at hl 3 rfl) ?_
  refine lv_iconst (v := (1 : Int32)) hx hb dL_law_618 (by decide) ?_
  refine lv_iadd hx hb dL_law_619 ?_
  refine va_sld hx hb hX hbl hbA h.2.2 h1 dL_law_620 ?_
  refine lawM (As := [.int (xs (x3 + (1 : Int32)).toNatClampNeg)]) (rest := [.int r1]) C h (c_X6_dust l D cI cZ aM AM hDM (xs (x3 + (1 : Int32)).toNatClampNeg) v _ hq) (cwV 1 hts gL_law_X6_dust rfl rfl rfl (by decide +kernel) ⟨Nat.le_of_ble_eq_true rfl, Nat.le_of_ble_eq_true rfl⟩) rfl hl.1 rfl (Nat.le_of_ble_eq_true rfl) dL_law_621 (fun r2 v h2_ w2 hq h => ?_)
  refine lv_icmp_eq (tgt := 925) hx hb dL_law_624 (by decide) (fun _ => ?_) (fun hn => absurd hq.1 hn)
  exact kk _ _ _ _ hq.2 h
set_option maxHeartbeats 4000000 in
set_option maxRecDepth 100000 in
theorem law_13 (C : LawC p s m c b L xs D cI cZ aF aM AF AM t1 t2) (hI : INV u v) (h : LawW s D cI cZ aF aM u v H locs) (hl : lv_has ls 4 [(0, .ref b), (1, .ref (aF 0)), (2, .ref (aM 0)), (3, .int x3)]) (h1 : vp_in (x3 + 1) L) (h2 : vp_in (x3 + 2) L) (h3 : vp_in (x3 + 3) L) (h4 : vp_in (x3 + 4) L)
    (kk : ∀ (u v : US) (H : Heap) (locs : List Loc), INV u v → LawW s D cI cZ aF aM u v H locs → W p l e room_1 s m #[Value.ref b] below meth c H locs 46 2969 Q (F0 m 925 ls [])) : W p l e room_1 s m #[Value.ref b] below meth c H locs 46 2969 Q (F0 m 629 ls []) := by
  obtain ⟨hx, hb, hml, hown, hts, hX, hbl, hK, hDF, hDM, hF0, hM0, hdis, hR⟩ := id C
  have hbA : ¬ (fun q : Nat => s.heap.size ≤ q) b := Nat.not_le.mpr hbl
  refine lv_aload_n hx hb dL_law_629 rfl (lv_at hl 1 rfl) ?_
  refine lv_aload_n hx hb dL_law_630 rfl (lv_at hl 0 rfl) ?_
  refine lv_iload_n hx hb dL_law_631 rfl (lv_at hl 3 rfl) ?_
  refine lv_iconst (v := (1 : Int32)) hx hb dL_law_632 (by decide) ?_
  refine lv_iadd hx hb dL_law_633 ?_
  refine va_sld hx hb hX hbl hbA h.2.2 h1 dL_law_634 ?_
  refine lv_aload_n hx hb dL_law_635 rfl (lv_at hl 0 rfl) ?_
  refine lv_iload_n hx hb dL_law_636 rfl (lv_at hl 3 rfl) ?_
  refine lv_iconst (v := (2 : Int32)) hx hb dL_law_637 (by decide) ?_
  refine lv_iadd hx hb dL_law_638 ?_
  refine va_sld hx hb hX hbl hbA h.2.2 h2 dL_law_639 ?_
  refine lv_aload_n hx hb dL_law_640 rfl (lv_at hl 0 rfl) ?_
  refine lv_iload_n hx hb dL_law_641 rfl (lv_at hl 3 rfl) ?_
  refine lv_iconst (v := (3 : Int32)) hx hb dL_law_642 (by decide) ?_
  refine lv_iadd hx hb dL_law_643 ?_
  refine va_sld hx hb hX hbl hbA h.2.2 h3 dL_law_644 ?_
  refine lv_aload_n hx hb dL_law_645 rfl (lv_at hl 0 rfl) ?_
  refine lv_iload_n hx hb dL_law_646 rfl (lv_at hl 3 rfl) ?_
  refine lv_iconst (v := (4 : Int32)) hx hb dL_law_647 (by decide) ?_
  refine lv_iadd hx hb dL_law_648 ?_
  refine va_sld hx hb hX hbl hbA h.2.2 h4 dL_law_649 ?_
  refine lawF (As := [.int (xs (x3 + (1 : Int32)).toNatClampNeg), .int (xs (x3 + (2 : Int32)).toNatClampNeg), .int (xs (x3 + (3 : Int32)).toNatClampNeg), .int (xs (x3 + (4 : Int32)).toNatClampNeg)]) (rest := []) C h (c_X5_layer l D cI cZ aF AF hDF (xs (x3 + (1 : Int32)).toNatClampNeg) (xs (x3 + (2 : Int32)).toNatClampNeg) (xs (x3 + (3 : Int32)).toNatClampNeg) (xs (x3 + (4 : Int32)).toNatClampNeg) u _ (i_layer hI (xs (x3 + (1 : Int32)).toNatClampNeg) (xs (x3 + (2 : Int32)).toNatClampNeg) (xs (x3 + (3 : Int32)).toNatClampNeg) (xs (x3 + (4 : Int32)).toNatClampNeg))) (cwV 4 hts gL_law_X5_layer rfl rfl rfl (by decide +kernel) ⟨Nat.le_of_ble_eq_true rfl, Nat.le_of_ble_eq_true rfl⟩) rfl hl.1 rfl (Nat.le_of_ble_eq_true rfl) dL_law_650 (fun r1 u h1_ w1 hq h => ?_)
  refine lv_aload_n hx hb dL_law_653 rfl (lv_at hl 2 rfl) ?_
  refine lv_aload_n hx hb dL_law_654 rfl (lv_at hl 0 rfl) ?_
  refine lv_iload_n hx hb dL_law_655 rfl (lv_at hl 3 rfl) ?_
  refine lv_iconst (v := (1 : Int32)) hx hb dL_law_656 (by decide) ?_
  refine lv_iadd hx hb dL_law_657 ?_
  refine va_sld hx hb hX hbl hbA h.2.2 h1 dL_law_658 ?_
  refine lv_aload_n hx hb dL_law_659 rfl (lv_at hl 0 rfl) ?_
  refine lv_iload_n hx hb dL_law_660 rfl (lv_at hl 3 rfl) ?_
  refine lv_iconst (v := (2 : Int32)) hx hb dL_law_661 (by decide) ?_
  refine lv_iadd hx hb dL_law_662 ?_
  refine va_sld hx hb hX hbl hbA h.2.2 h2 dL_law_663 ?_
  refine lv_aload_n hx hb dL_law_664 rfl (lv_at hl 0 rfl) ?_
  refine lv_iload_n hx hb dL_law_665 rfl (lv_at hl 3 rfl) ?_
  refine lv_iconst (v := (3 : Int32)) hx hb dL_law_666 (by decide) ?_
  refine lv_iadd hx hb dL_law_667 ?_
  refine va_sld hx hb hX hbl hbA h.2.2 h3 dL_law_668 ?_
  refine lv_aload_n hx hb dL_law_669 rfl (lv_at hl 0 rfl) ?_
  refine lv_iload_n hx hb dL_law_670 rfl (lv_at hl 3 rfl) ?_
  refine lv_iconst (v := (4 : Int32)) hx hb dL_law_671 (by decide) ?_
  refine lv_iadd hx hb dL_law_672 ?_
  refine va_sld hx hb hX hbl hbA h.2.2 h4 dL_law_673 ?_
  refine lawM (As := [.int (xs (x3 + (1 : Int32)).toNatClampNeg), .int (xs (x3 + (2 : Int32)).toNatClampNeg), .int (xs (x3 + (3 : Int32)).toNatClampNeg), .int (xs (x3 + (4 : Int32)).toNatClampNeg)]) (rest := [.int r1]) C h (c_X6_layer l D cI cZ aM AM hDM (xs (x3 + (1 : Int32)).toNatClampNeg) (xs (x3 + (2 : Int32)).toNatClampNeg) (xs (x3 + (3 : Int32)).toNatClampNeg) (xs (x3 + (4 : Int32)).toNatClampNeg) v _ hq) (cwV 4 hts gL_law_X6_layer rfl rfl rfl (by decide +kernel) ⟨Nat.le_of_ble_eq_true rfl, Nat.le_of_ble_eq_true rfl⟩) rfl hl.1 rfl (Nat.le_of_ble_eq_true rfl) dL_law_674 (fun r2 v h2_ w2 hq h => ?_)
  refine lv_icmp_eq (tgt := 925) hx hb dL_law_677 (by decide) (fun _ => ?_) (fun hn => absurd hq.1 hn)
  exact kk _ _ _ _ hq.2 h
set_option maxHeartbeats 4000000 in
set_option maxRecDepth 100000 in
theorem law_14 (C : LawC p s m c b L xs D cI cZ aF aM AF AM t1 t2) (hI : INV u v) (h : LawW s D cI cZ aF aM u v H locs) (hl : lv_has ls 4 [(0, .ref b), (1, .ref (aF 0)), (2, .ref (aM 0)), (3, .int x3)]) (h1 : vp_in (x3 + 1) L) (h2 : vp_in (x3 + 2) L) (h3 : vp_in (x3 + 3) L) (h4 : vp_in (x3 + 4) L)
    (kk : ∀ (u v : US) (H : Heap) (locs : List Loc), INV u v → LawW s D cI cZ aF aM u v H locs → W p l e room_1 s m #[Value.ref b] below meth c H locs 46 2969 Q (F0 m 925 ls [])) : W p l e room_1 s m #[Value.ref b] below meth c H locs 46 2969 Q (F0 m 682 ls []) := by
  obtain ⟨hx, hb, hml, hown, hts, hX, hbl, hK, hDF, hDM, hF0, hM0, hdis, hR⟩ := id C
  have hbA : ¬ (fun q : Nat => s.heap.size ≤ q) b := Nat.not_le.mpr hbl
  refine lv_aload_n hx hb dL_law_682 rfl (lv_at hl 1 rfl) ?_
  refine lv_aload_n hx hb dL_law_683 rfl (lv_at hl 0 rfl) ?_
  refine lv_iload_n hx hb dL_law_684 rfl (lv_at hl 3 rfl) ?_
  refine lv_iconst (v := (1 : Int32)) hx hb dL_law_685 (by decide) ?_
  refine lv_iadd hx hb dL_law_686 ?_
  refine va_sld hx hb hX hbl hbA h.2.2 h1 dL_law_687 ?_
  refine lv_aload_n hx hb dL_law_688 rfl (lv_at hl 0 rfl) ?_
  refine lv_iload_n hx hb dL_law_689 rfl (lv_at hl 3 rfl) ?_
  refine lv_iconst (v := (2 : Int32)) hx hb dL_law_690 (by decide) ?_
  refine lv_iadd hx hb dL_law_691 ?_
  refine va_sld hx hb hX hbl hbA h.2.2 h2 dL_law_692 ?_
  refine lv_if_eq (tgt := 700) hx hb dL_law_693 (by decide) (fun hc => ?_) (fun hc => ?_)
  · skip
    refine lv_iconst (v := (0 : Int32)) hx hb dL_law_700 (by decide) ?_
    refine lawF (As := [.int (xs (x3 + (1 : Int32)).toNatClampNeg), .int (0 : Int32)]) (rest := []) C h (c_X5_on l D cI cZ aF AF hDF (xs (x3 + (1 : Int32)).toNatClampNeg) (0 : Int32) u _ (i_on hI (xs (x3 + (1 : Int32)).toNatClampNeg) (0 : Int32) (Or.inl rfl))) (cwV 2 hts gL_law_X5_on rfl rfl rfl (by decide +kernel) ⟨Nat.le_of_ble_eq_true rfl, Nat.le_of_ble_eq_true rfl⟩) rfl hl.1 rfl (Nat.le_of_ble_eq_true rfl) dL_law_701 (fun r1 u h1_ w1 hq h => ?_)
    refine lv_aload_n hx hb dL_law_704 rfl (lv_at hl 2 rfl) ?_
    refine lv_aload_n hx hb dL_law_705 rfl (lv_at hl 0 rfl) ?_
    refine lv_iload_n hx hb dL_law_706 rfl (lv_at hl 3 rfl) ?_
    refine lv_iconst (v := (1 : Int32)) hx hb dL_law_707 (by decide) ?_
    refine lv_iadd hx hb dL_law_708 ?_
    refine va_sld hx hb hX hbl hbA h.2.2 h1 dL_law_709 ?_
    refine lv_aload_n hx hb dL_law_710 rfl (lv_at hl 0 rfl) ?_
    refine lv_iload_n hx hb dL_law_711 rfl (lv_at hl 3 rfl) ?_
    refine lv_iconst (v := (2 : Int32)) hx hb dL_law_712 (by decide) ?_
    refine lv_iadd hx hb dL_law_713 ?_
    refine va_sld hx hb hX hbl hbA h.2.2 h2 dL_law_714 ?_
    refine lv_if_eq (tgt := 722) hx hb dL_law_715 (by decide) (fun hd => ?_) (fun hd => absurd hc hd)
    refine lv_iconst (v := (0 : Int32)) hx hb dL_law_722 (by decide) ?_
    refine lawM (As := [.int (xs (x3 + (1 : Int32)).toNatClampNeg), .int (0 : Int32)]) (rest := [.int r1]) C h (c_X6_on l D cI cZ aM AM hDM (xs (x3 + (1 : Int32)).toNatClampNeg) (0 : Int32) v _ hq) (cwV 2 hts gL_law_X6_on rfl rfl rfl (by decide +kernel) ⟨Nat.le_of_ble_eq_true rfl, Nat.le_of_ble_eq_true rfl⟩) rfl hl.1 rfl (Nat.le_of_ble_eq_true rfl) dL_law_723 (fun r2 v h2_ w2 hq h => ?_)
    refine lv_icmp_eq (tgt := 925) hx hb dL_law_726 (by decide) (fun _ => ?_) (fun hn => absurd hq.1 hn)
    exact kk _ _ _ _ hq.2 h
  · skip
    refine lv_iconst (v := (1 : Int32)) hx hb dL_law_696 (by decide) ?_
    refine lv_goto (tgt := 701) hx hb dL_law_697 (by decide) ?_
    refine lawF (As := [.int (xs (x3 + (1 : Int32)).toNatClampNeg), .int (1 : Int32)]) (rest := []) C h (c_X5_on l D cI cZ aF AF hDF (xs (x3 + (1 : Int32)).toNatClampNeg) (1 : Int32) u _ (i_on hI (xs (x3 + (1 : Int32)).toNatClampNeg) (1 : Int32) (Or.inr rfl))) (cwV 2 hts gL_law_X5_on rfl rfl rfl (by decide +kernel) ⟨Nat.le_of_ble_eq_true rfl, Nat.le_of_ble_eq_true rfl⟩) rfl hl.1 rfl (Nat.le_of_ble_eq_true rfl) dL_law_701 (fun r1 u h1_ w1 hq h => ?_)
    refine lv_aload_n hx hb dL_law_704 rfl (lv_at hl 2 rfl) ?_
    refine lv_aload_n hx hb dL_law_705 rfl (lv_at hl 0 rfl) ?_
    refine lv_iload_n hx hb dL_law_706 rfl (lv_at hl 3 rfl) ?_
    refine lv_iconst (v := (1 : Int32)) hx hb dL_law_707 (by decide) ?_
    refine lv_iadd hx hb dL_law_708 ?_
    refine va_sld hx hb hX hbl hbA h.2.2 h1 dL_law_709 ?_
    refine lv_aload_n hx hb dL_law_710 rfl (lv_at hl 0 rfl) ?_
    refine lv_iload_n hx hb dL_law_711 rfl (lv_at hl 3 rfl) ?_
    refine lv_iconst (v := (2 : Int32)) hx hb dL_law_712 (by decide) ?_
    refine lv_iadd hx hb dL_law_713 ?_
    refine va_sld hx hb hX hbl hbA h.2.2 h2 dL_law_714 ?_
    refine lv_if_eq (tgt := 722) hx hb dL_law_715 (by decide) (fun hd => absurd hd hc) (fun hd => ?_)
    refine lv_iconst (v := (1 : Int32)) hx hb dL_law_718 (by decide) ?_
    refine lv_goto (tgt := 723) hx hb dL_law_719 (by decide) ?_
    refine lawM (As := [.int (xs (x3 + (1 : Int32)).toNatClampNeg), .int (1 : Int32)]) (rest := [.int r1]) C h (c_X6_on l D cI cZ aM AM hDM (xs (x3 + (1 : Int32)).toNatClampNeg) (1 : Int32) v _ hq) (cwV 2 hts gL_law_X6_on rfl rfl rfl (by decide +kernel) ⟨Nat.le_of_ble_eq_true rfl, Nat.le_of_ble_eq_true rfl⟩) rfl hl.1 rfl (Nat.le_of_ble_eq_true rfl) dL_law_723 (fun r2 v h2_ w2 hq h => ?_)
    refine lv_icmp_eq (tgt := 925) hx hb dL_law_726 (by decide) (fun _ => ?_) (fun hn => absurd hq.1 hn)
    exact kk _ _ _ _ hq.2 h
set_option maxHeartbeats 4000000 in
set_option maxRecDepth 100000 in
theorem law_15 (C : LawC p s m c b L xs D cI cZ aF aM AF AM t1 t2) (hI : INV u v) (h : LawW s D cI cZ aF aM u v H locs) (hl : lv_has ls 4 [(0, .ref b), (1, .ref (aF 0)), (2, .ref (aM 0)), (3, .int x3)]) (h1 : vp_in (x3 + 1) L) (h2 : vp_in (x3 + 2) L) (h3 : vp_in (x3 + 3) L) (h4 : vp_in (x3 + 4) L)
    (kk : ∀ (u v : US) (H : Heap) (locs : List Loc), INV u v → LawW s D cI cZ aF aM u v H locs → W p l e room_1 s m #[Value.ref b] below meth c H locs 46 2969 Q (F0 m 925 ls [])) : W p l e room_1 s m #[Value.ref b] below meth c H locs 46 2969 Q (F0 m 731 ls []) := by
  obtain ⟨hx, hb, hml, hown, hts, hX, hbl, hK, hDF, hDM, hF0, hM0, hdis, hR⟩ := id C
  have hbA : ¬ (fun q : Nat => s.heap.size ≤ q) b := Nat.not_le.mpr hbl
  refine lv_aload_n hx hb dL_law_731 rfl (lv_at hl 1 rfl) ?_
  refine lawF (As := []) (rest := []) C h (c_X5_peel l D cI cZ aF AF hDF  u _ (i_peel hI )) (cwV 0 hts gL_law_X5_peel rfl rfl rfl (by decide +kernel) ⟨Nat.le_of_ble_eq_true rfl, Nat.le_of_ble_eq_true rfl⟩) rfl hl.1 rfl (Nat.le_of_ble_eq_true rfl) dL_law_732 (fun r1 u h1_ w1 hq h => ?_)
  refine lv_aload_n hx hb dL_law_735 rfl (lv_at hl 2 rfl) ?_
  refine lawM (As := []) (rest := [.int r1]) C h (c_X6_peel l D cI cZ aM AM hDM  v _ hq) (cwV 0 hts gL_law_X6_peel rfl rfl rfl (by decide +kernel) ⟨Nat.le_of_ble_eq_true rfl, Nat.le_of_ble_eq_true rfl⟩) rfl hl.1 rfl (Nat.le_of_ble_eq_true rfl) dL_law_736 (fun r2 v h2_ w2 hq h => ?_)
  refine lv_icmp_eq (tgt := 925) hx hb dL_law_739 (by decide) (fun _ => ?_) (fun hn => absurd hq.1 hn)
  exact kk _ _ _ _ hq.2 h
set_option maxHeartbeats 4000000 in
set_option maxRecDepth 100000 in
theorem law_16 (C : LawC p s m c b L xs D cI cZ aF aM AF AM t1 t2) (hI : INV u v) (h : LawW s D cI cZ aF aM u v H locs) (hl : lv_has ls 4 [(0, .ref b), (1, .ref (aF 0)), (2, .ref (aM 0)), (3, .int x3)]) (h1 : vp_in (x3 + 1) L) (h2 : vp_in (x3 + 2) L) (h3 : vp_in (x3 + 3) L) (h4 : vp_in (x3 + 4) L)
    (kk : ∀ (u v : US) (H : Heap) (locs : List Loc), INV u v → LawW s D cI cZ aF aM u v H locs → W p l e room_1 s m #[Value.ref b] below meth c H locs 46 2969 Q (F0 m 925 ls [])) : W p l e room_1 s m #[Value.ref b] below meth c H locs 46 2969 Q (F0 m 744 ls []) := by
  obtain ⟨hx, hb, hml, hown, hts, hX, hbl, hK, hDF, hDM, hF0, hM0, hdis, hR⟩ := id C
  have hbA : ¬ (fun q : Nat => s.heap.size ≤ q) b := Nat.not_le.mpr hbl
  refine lv_aload_n hx hb dL_law_744 rfl (lv_at hl 1 rfl) ?_
  refine lv_aload_n hx hb dL_law_745 rfl (lv_at hl 0 rfl) ?_
  refine lv_iload_n hx hb dL_law_746 rfl (lv_at hl 3 rfl) ?_
  refine lv_iconst (v := (1 : Int32)) hx hb dL_law_747 (by decide) ?_
  refine lv_iadd hx hb dL_law_748 ?_
  refine va_sld hx hb hX hbl hbA h.2.2 h1 dL_law_749 ?_
  refine lv_aload_n hx hb dL_law_750 rfl (lv_at hl 0 rfl) ?_
  refine lv_iload_n hx hb dL_law_751 rfl (lv_at hl 3 rfl) ?_
  refine lv_iconst (v := (2 : Int32)) hx hb dL_law_752 (by decide) ?_
  refine lv_iadd hx hb dL_law_753 ?_
  refine va_sld hx hb hX hbl hbA h.2.2 h2 dL_law_754 ?_
  refine lv_aload_n hx hb dL_law_755 rfl (lv_at hl 0 rfl) ?_
  refine lv_iload_n hx hb dL_law_756 rfl (lv_at hl 3 rfl) ?_
  refine lv_iconst (v := (3 : Int32)) hx hb dL_law_757 (by decide) ?_
  refine lv_iadd hx hb dL_law_758 ?_
  refine va_sld hx hb hX hbl hbA h.2.2 h3 dL_law_759 ?_
  refine lawF (As := [.int (xs (x3 + (1 : Int32)).toNatClampNeg), .int (xs (x3 + (2 : Int32)).toNatClampNeg), .int (xs (x3 + (3 : Int32)).toNatClampNeg)]) (rest := []) C h (c_X5_made l D cI cZ aF AF hDF (xs (x3 + (1 : Int32)).toNatClampNeg) (xs (x3 + (2 : Int32)).toNatClampNeg) (xs (x3 + (3 : Int32)).toNatClampNeg) u _ (i_made hI (xs (x3 + (1 : Int32)).toNatClampNeg) (xs (x3 + (2 : Int32)).toNatClampNeg) (xs (x3 + (3 : Int32)).toNatClampNeg))) (cwV 3 hts gL_law_X5_made rfl rfl rfl (by decide +kernel) ⟨Nat.le_of_ble_eq_true rfl, Nat.le_of_ble_eq_true rfl⟩) rfl hl.1 rfl (Nat.le_of_ble_eq_true rfl) dL_law_760 (fun r1 u h1_ w1 hq h => ?_)
  refine lv_aload_n hx hb dL_law_763 rfl (lv_at hl 2 rfl) ?_
  refine lv_aload_n hx hb dL_law_764 rfl (lv_at hl 0 rfl) ?_
  refine lv_iload_n hx hb dL_law_765 rfl (lv_at hl 3 rfl) ?_
  refine lv_iconst (v := (1 : Int32)) hx hb dL_law_766 (by decide) ?_
  refine lv_iadd hx hb dL_law_767 ?_
  refine va_sld hx hb hX hbl hbA h.2.2 h1 dL_law_768 ?_
  refine lv_aload_n hx hb dL_law_769 rfl (lv_at hl 0 rfl) ?_
  refine lv_iload_n hx hb dL_law_770 rfl (lv_at hl 3 rfl) ?_
  refine lv_iconst (v := (2 : Int32)) hx hb dL_law_771 (by decide) ?_
  refine lv_iadd hx hb dL_law_772 ?_
  refine va_sld hx hb hX hbl hbA h.2.2 h2 dL_law_773 ?_
  refine lv_aload_n hx hb dL_law_774 rfl (lv_at hl 0 rfl) ?_
  refine lv_iload_n hx hb dL_law_775 rfl (lv_at hl 3 rfl) ?_
  refine lv_iconst (v := (3 : Int32)) hx hb dL_law_776 (by decide) ?_
  refine lv_iadd hx hb dL_law_777 ?_
  refine va_sld hx hb hX hbl hbA h.2.2 h3 dL_law_778 ?_
  refine lawM (As := [.int (xs (x3 + (1 : Int32)).toNatClampNeg), .int (xs (x3 + (2 : Int32)).toNatClampNeg), .int (xs (x3 + (3 : Int32)).toNatClampNeg)]) (rest := [.int r1]) C h (c_X6_made l D cI cZ aM AM hDM (xs (x3 + (1 : Int32)).toNatClampNeg) (xs (x3 + (2 : Int32)).toNatClampNeg) (xs (x3 + (3 : Int32)).toNatClampNeg) v _ hq) (cwV 3 hts gL_law_X6_made rfl rfl rfl (by decide +kernel) ⟨Nat.le_of_ble_eq_true rfl, Nat.le_of_ble_eq_true rfl⟩) rfl hl.1 rfl (Nat.le_of_ble_eq_true rfl) dL_law_779 (fun r2 v h2_ w2 hq h => ?_)
  refine lv_icmp_eq (tgt := 925) hx hb dL_law_782 (by decide) (fun _ => ?_) (fun hn => absurd hq.1 hn)
  exact kk _ _ _ _ hq.2 h
set_option maxHeartbeats 4000000 in
set_option maxRecDepth 100000 in
theorem law_17 (C : LawC p s m c b L xs D cI cZ aF aM AF AM t1 t2) (hI : INV u v) (h : LawW s D cI cZ aF aM u v H locs) (hl : lv_has ls 4 [(0, .ref b), (1, .ref (aF 0)), (2, .ref (aM 0)), (3, .int x3)]) (h1 : vp_in (x3 + 1) L) (h2 : vp_in (x3 + 2) L) (h3 : vp_in (x3 + 3) L) (h4 : vp_in (x3 + 4) L)
    (kk : ∀ (u v : US) (H : Heap) (locs : List Loc), INV u v → LawW s D cI cZ aF aM u v H locs → W p l e room_1 s m #[Value.ref b] below meth c H locs 46 2969 Q (F0 m 925 ls [])) : W p l e room_1 s m #[Value.ref b] below meth c H locs 46 2969 Q (F0 m 787 ls []) := by
  obtain ⟨hx, hb, hml, hown, hts, hX, hbl, hK, hDF, hDM, hF0, hM0, hdis, hR⟩ := id C
  have hbA : ¬ (fun q : Nat => s.heap.size ≤ q) b := Nat.not_le.mpr hbl
  refine lv_aload_n hx hb dL_law_787 rfl (lv_at hl 1 rfl) ?_
  refine lv_aload_n hx hb dL_law_788 rfl (lv_at hl 0 rfl) ?_
  refine lv_iload_n hx hb dL_law_789 rfl (lv_at hl 3 rfl) ?_
  refine lv_iconst (v := (1 : Int32)) hx hb dL_law_790 (by decide) ?_
  refine lv_iadd hx hb dL_law_791 ?_
  refine va_sld hx hb hX hbl hbA h.2.2 h1 dL_law_792 ?_
  refine lawF (As := [.int (xs (x3 + (1 : Int32)).toNatClampNeg)]) (rest := []) C h (c_X5_changed l D cI cZ aF AF hDF (xs (x3 + (1 : Int32)).toNatClampNeg) u _ (i_changed hI (xs (x3 + (1 : Int32)).toNatClampNeg))) (cwV 1 hts gL_law_X5_changed rfl rfl rfl (by decide +kernel) ⟨Nat.le_of_ble_eq_true rfl, Nat.le_of_ble_eq_true rfl⟩) rfl hl.1 rfl (Nat.le_of_ble_eq_true rfl) dL_law_793 (fun r1 u h1_ w1 hq h => ?_)
  refine lv_aload_n hx hb dL_law_796 rfl (lv_at hl 2 rfl) ?_
  refine lv_aload_n hx hb dL_law_797 rfl (lv_at hl 0 rfl) ?_
  refine lv_iload_n hx hb dL_law_798 rfl (lv_at hl 3 rfl) ?_
  refine lv_iconst (v := (1 : Int32)) hx hb dL_law_799 (by decide) ?_
  refine lv_iadd hx hb dL_law_800 ?_
  refine va_sld hx hb hX hbl hbA h.2.2 h1 dL_law_801 ?_
  refine lawM (As := [.int (xs (x3 + (1 : Int32)).toNatClampNeg)]) (rest := [.int r1]) C h (c_X6_changed l D cI cZ aM AM hDM (xs (x3 + (1 : Int32)).toNatClampNeg) v _ hq) (cwV 1 hts gL_law_X6_changed rfl rfl rfl (by decide +kernel) ⟨Nat.le_of_ble_eq_true rfl, Nat.le_of_ble_eq_true rfl⟩) rfl hl.1 rfl (Nat.le_of_ble_eq_true rfl) dL_law_802 (fun r2 v h2_ w2 hq h => ?_)
  refine lv_icmp_eq (tgt := 925) hx hb dL_law_805 (by decide) (fun _ => ?_) (fun hn => absurd hq.1 hn)
  exact kk _ _ _ _ hq.2 h
end LAWK
