section LAWL
variable {p : Program} {l : Launch} {e : Env} {s : State} {m : MethodId} {below : List Frame} {meth : Method} {c : Code}
variable {b L : Nat} {xs : Nat → Int32} {D : va_G} {cI cZ : ClassId} {aF aM : Nat → Nat} {AF AM : Nat → Prop} {t1 t2 : Nat}
theorem iI_nat (n : Nat) : Int32.ofNat n = iI (n : Int) := rfl
set_option maxHeartbeats 4000000 in
set_option maxRecDepth 100000 in
theorem law_case {H : Heap} {locs : List Loc} {ls : Array Slot} {Q : State → Prop} {u v : US} {x3 X : Int32} (C : LawC p s m c b L xs D cI cZ aF aM AF AM t1 t2) (hI : INV u v) (h : LawW s D cI cZ aF aM u v H locs) (hl : lv_has ls 4 [(0, .ref b), (1, .ref (aF 0)), (2, .ref (aM 0)), (3, .int x3)]) (h1 : vp_in (x3 + 1) L) (h2 : vp_in (x3 + 2) L) (h3 : vp_in (x3 + 3) L) (h4 : vp_in (x3 + 4) L)
    (kk : ∀ (u v : US) (H : Heap) (locs : List Loc), INV u v → LawW s D cI cZ aF aM u v H locs → W p l e room_1 s m #[Value.ref b] below meth c H locs 46 2969 Q (F0 m 925 ls [])) : W p l e room_1 s m #[Value.ref b] below meth c H locs 46 2969 Q (F0 m 32 ls [.int X]) := by
  obtain ⟨hx, hb, hml, hown, hts, hX, hbl, hK, hDF, hDM, hF0, hM0, hdis, hR⟩ := id C
  by_cases hc : X.toInt < 0 ∨ 22 < X.toInt
  · refine lv_tableOut (tgt := 925) hx hb dL_law_32 hc (by decide) ?_
    exact kk _ _ _ _ hI h
  · have hv : X.toInt = 0 ∨ X.toInt = 1 ∨ X.toInt = 2 ∨ X.toInt = 3 ∨ X.toInt = 4 ∨ X.toInt = 5 ∨ X.toInt = 6 ∨ X.toInt = 7 ∨ X.toInt = 8 ∨ X.toInt = 9 ∨ X.toInt = 10 ∨ X.toInt = 11 ∨ X.toInt = 12 ∨ X.toInt = 13 ∨ X.toInt = 14 ∨ X.toInt = 15 ∨ X.toInt = 16 ∨ X.toInt = 17 ∨ X.toInt = 18 ∨ X.toInt = 19 ∨ X.toInt = 20 ∨ X.toInt = 21 ∨ X.toInt = 22 := by omega
    rcases hv with hv | hv | hv | hv | hv | hv | hv | hv | hv | hv | hv | hv | hv | hv | hv | hv | hv | hv | hv | hv | hv | hv | hv
    · refine lv_tableIn (off := 108) (tgt := 140) hx hb dL_law_32 (by omega) (by omega) (by rw [hv]; rfl) (by decide) ?_
      exact law_0 C hI h hl h1 h2 h3 h4 kk
    · refine lv_tableIn (off := 141) (tgt := 173) hx hb dL_law_32 (by omega) (by omega) (by rw [hv]; rfl) (by decide) ?_
      exact law_1 C hI h hl h1 h2 h3 h4 kk
    · refine lv_tableIn (off := 154) (tgt := 186) hx hb dL_law_32 (by omega) (by omega) (by rw [hv]; rfl) (by decide) ?_
      exact law_2 C hI h hl h1 h2 h3 h4 kk
    · refine lv_tableIn (off := 187) (tgt := 219) hx hb dL_law_32 (by omega) (by omega) (by rw [hv]; rfl) (by decide) ?_
      exact law_3 C hI h hl h1 h2 h3 h4 kk
    · refine lv_tableIn (off := 240) (tgt := 272) hx hb dL_law_32 (by omega) (by omega) (by rw [hv]; rfl) (by decide) ?_
      exact law_4 C hI h hl h1 h2 h3 h4 kk
    · refine lv_tableIn (off := 313) (tgt := 345) hx hb dL_law_32 (by omega) (by omega) (by rw [hv]; rfl) (by decide) ?_
      exact law_5 C hI h hl h1 h2 h3 h4 kk
    · refine lv_tableIn (off := 356) (tgt := 388) hx hb dL_law_32 (by omega) (by omega) (by rw [hv]; rfl) (by decide) ?_
      exact law_6 C hI h hl h1 h2 h3 h4 kk
    · refine lv_tableIn (off := 389) (tgt := 421) hx hb dL_law_32 (by omega) (by omega) (by rw [hv]; rfl) (by decide) ?_
      exact law_7 C hI h hl h1 h2 h3 h4 kk
    · refine lv_tableIn (off := 442) (tgt := 474) hx hb dL_law_32 (by omega) (by omega) (by rw [hv]; rfl) (by decide) ?_
      exact law_8 C hI h hl h1 h2 h3 h4 kk
    · refine lv_tableIn (off := 475) (tgt := 507) hx hb dL_law_32 (by omega) (by omega) (by rw [hv]; rfl) (by decide) ?_
      exact law_9 C hI h hl h1 h2 h3 h4 kk
    · refine lv_tableIn (off := 508) (tgt := 540) hx hb dL_law_32 (by omega) (by omega) (by rw [hv]; rfl) (by decide) ?_
      exact law_10 C hI h hl h1 h2 h3 h4 kk
    · refine lv_tableIn (off := 541) (tgt := 573) hx hb dL_law_32 (by omega) (by omega) (by rw [hv]; rfl) (by decide) ?_
      exact law_11 C hI h hl h1 h2 h3 h4 kk
    · refine lv_tableIn (off := 574) (tgt := 606) hx hb dL_law_32 (by omega) (by omega) (by rw [hv]; rfl) (by decide) ?_
      exact law_12 C hI h hl h1 h2 h3 h4 kk
    · refine lv_tableIn (off := 597) (tgt := 629) hx hb dL_law_32 (by omega) (by omega) (by rw [hv]; rfl) (by decide) ?_
      exact law_13 C hI h hl h1 h2 h3 h4 kk
    · refine lv_tableIn (off := 650) (tgt := 682) hx hb dL_law_32 (by omega) (by omega) (by rw [hv]; rfl) (by decide) ?_
      exact law_14 C hI h hl h1 h2 h3 h4 kk
    · refine lv_tableIn (off := 699) (tgt := 731) hx hb dL_law_32 (by omega) (by omega) (by rw [hv]; rfl) (by decide) ?_
      exact law_15 C hI h hl h1 h2 h3 h4 kk
    · refine lv_tableIn (off := 712) (tgt := 744) hx hb dL_law_32 (by omega) (by omega) (by rw [hv]; rfl) (by decide) ?_
      exact law_16 C hI h hl h1 h2 h3 h4 kk
    · refine lv_tableIn (off := 755) (tgt := 787) hx hb dL_law_32 (by omega) (by omega) (by rw [hv]; rfl) (by decide) ?_
      exact law_17 C hI h hl h1 h2 h3 h4 kk
    · refine lv_tableIn (off := 778) (tgt := 810) hx hb dL_law_32 (by omega) (by omega) (by rw [hv]; rfl) (by decide) ?_
      exact law_18 C hI h hl h1 h2 h3 h4 kk
    · refine lv_tableIn (off := 811) (tgt := 843) hx hb dL_law_32 (by omega) (by omega) (by rw [hv]; rfl) (by decide) ?_
      exact law_19 C hI h hl h1 h2 h3 h4 kk
    · refine lv_tableIn (off := 844) (tgt := 876) hx hb dL_law_32 (by omega) (by omega) (by rw [hv]; rfl) (by decide) ?_
      exact law_20 C hI h hl h1 h2 h3 h4 kk
    · refine lv_tableIn (off := 867) (tgt := 899) hx hb dL_law_32 (by omega) (by omega) (by rw [hv]; rfl) (by decide) ?_
      exact law_21 C hI h hl h1 h2 h3 h4 kk
    · refine lv_tableIn (off := 880) (tgt := 912) hx hb dL_law_32 (by omega) (by omega) (by rw [hv]; rfl) (by decide) ?_
      exact law_22 C hI h hl h1 h2 h3 h4 kk
set_option maxHeartbeats 4000000 in
set_option maxRecDepth 100000 in
theorem law_loop (C : LawC p s m c b L xs D cI cZ aF aM AF AM t1 t2) (hL : L ≤ 2560) (hr : meth.sig.returnType = ret) (hlocks : meth.locks = false) : ∀ (n i : Nat), L < n + i → i ≤ 2560 → ∀ (u v : US) (H : Heap) (locs : List Loc) (ls : Array Slot), INV u v → LawW s D cI cZ aF aM u v H locs → lv_has ls 4 [(0, .ref b), (1, .ref (aF 0)), (2, .ref (aM 0)), (3, .int (iI (i : Int)))] → W p l e room_1 s m #[Value.ref b] below meth c H locs 46 2969 (lw_Z below #[Value.ref b] s) (F0 m 18 ls []) := by
  obtain ⟨hx, hb, hml, hown, hts, hX, hbl, hK, hDF, hDM, hF0, hM0, hdis, hR⟩ := id C
  have hbA : ¬ (fun q : Nat => s.heap.size ≤ q) b := Nat.not_le.mpr hbl
  intro n
  induction n with
  | zero =>
    intro i hi hi2 u v H locs ls hI h hl
    refine lv_iload_n hx hb dL_law_18 rfl (lv_at hl 3 rfl) ?_
    refine lv_aload_n hx hb dL_law_19 rfl (lv_at hl 0 rfl) ?_
    refine va_slen hx hb hX hbl hbA h.2.2 dL_law_20 ?_
    refine lv_iconst (v := (5 : Int32)) hx hb dL_law_21 (by decide) ?_
    refine lv_isub hx hb dL_law_22 ?_
    refine lv_icmp_gt (tgt := 931) hx hb dL_law_23 (by decide) (fun hc => ?_) (fun hc => ?_)
    · refine lv_iconst (v := (1 : Int32)) hx hb dL_law_931 (by decide) ?_
      exact va_forget (fun q hq => h.2.2.2.2 q hq) (lw_ret hx hb hr hlocks dL_law_932)
    · refine absurd ?_ hc
      rw [iI_nat, l5, iI_sub, iI_lt (by omega) (by omega)]
      omega
  | succ n ih =>
    intro i hi hi2 u v H locs ls hI h hl
    refine lv_iload_n hx hb dL_law_18 rfl (lv_at hl 3 rfl) ?_
    refine lv_aload_n hx hb dL_law_19 rfl (lv_at hl 0 rfl) ?_
    refine va_slen hx hb hX hbl hbA h.2.2 dL_law_20 ?_
    refine lv_iconst (v := (5 : Int32)) hx hb dL_law_21 (by decide) ?_
    refine lv_isub hx hb dL_law_22 ?_
    refine lv_icmp_gt (tgt := 931) hx hb dL_law_23 (by decide) (fun hc => ?_) (fun hc => ?_)
    · refine lv_iconst (v := (1 : Int32)) hx hb dL_law_931 (by decide) ?_
      exact va_forget (fun q hq => h.2.2.2.2 q hq) (lw_ret hx hb hr hlocks dL_law_932)
    · rw [iI_nat, l5, iI_sub, iI_lt (by omega) (by omega)] at hc
      have hin : ∀ k : Int, 0 ≤ k → k ≤ 4 → vp_in (iI (i : Int) + iI k) L := fun k k0 k4 => by
        rw [iI_add, iI_in (by omega)]
        omega
      have h0 : vp_in (iI (i : Int)) L := by
        rw [iI_in (by omega)]
        omega
      refine lv_aload_n hx hb dL_law_26 rfl (lv_at hl 0 rfl) ?_
      refine lv_iload_n hx hb dL_law_27 rfl (lv_at hl 3 rfl) ?_
      refine va_sld hx hb hX hbl hbA h.2.2 h0 dL_law_28 ?_
      refine lv_bipush (v := (31 : Int32)) hx hb dL_law_29 (by decide) ?_
      refine lv_iand hx hb dL_law_31 ?_
      refine law_case C hI h hl (hin 1 (by omega) (by omega)) (hin 2 (by omega) (by omega)) (hin 3 (by omega) (by omega)) (hin 4 (by omega) (by omega)) (fun u v H locs hI h => ?_)
      refine lv_iinc (v := iI ((i + 5 : Nat) : Int)) (lv' := [(3, .int (iI ((i + 5 : Nat) : Int))), (0, .ref b), (1, .ref (aF 0)), (2, .ref (aM 0))]) hx hb dL_law_925 hl (k := 3) rfl (show iI (i : Int) + iI 5 = _ by rw [iI_add]; rfl) (by decide) rfl (fun ls hl => ?_)
      refine lv_goto (tgt := 18) hx hb dL_law_928 (by decide) ?_
      exact ih (i + 5) (by omega) (by omega) u v H locs ls hI h (lv_sub hl [1, 2, 3, 0] rfl)
end LAWL
