set_option maxRecDepth 100000 in
set_option maxHeartbeats 4000000 in
theorem c_X4_costOfStart (l : Launch) (D : va_G) (cI cZ : ClassId) (adr : Nat → Nat) (A : Nat → Prop) (hD : ∀ u, va_D A (fw adr cI cZ u)) (p1 : Int32) (p2 : Int32) (u : US) (post : Int32 → US → Prop) (h : wp_X4_costOfStart p1 p2 u post) : gMi l yX4_costOfStart wsX4_costOfStart 1 D cI cZ (fw adr cI cZ) A [.ref (adr 11), .int p1, .int p2] u post := by
  refine Met.ofW (cc := cX4_costOfStart) (maxL := 3) (ret := (some .int)) (by decide) rfl ?_
  intro p e s m args below meth c s₁ B hml hv
  obtain ⟨rfl, hP, hK⟩ := hv
  have hx := B.exec
  have hb := B.bytes
  have hr := B.returns
  have hts := atoms_spec (ws := wsX4_costOfStart) B.pre
  have hown : s.vm.findClass RX4 = some m.cls := findClass_of_methodNamed B.named
  have hlocks := B.notSynchronized
  have hinX4 : ∀ w ∈ wsX40, w ∈ wsX4_costOfStart := by decide +kernel
  have hS : va_S A s.heap s.heap [] := va_S.rf
  have hl := lv_entry ([.ref (adr 11), .int p1, .int p2]) (n := 3) (Nat.le_of_ble_eq_true rfl)
  rw [lg_entry_eq]
  generalize (lg_sl ([.ref (adr 11), .int p1, .int p2]) ++ List.replicate (3 - (lg_sl ([.ref (adr 11), .int p1, .int p2])).length) Slot.unset).toArray = ls at hl ⊢
  replace hl : lv_has ls 3 [(0, .ref (adr 11)), (1, .int p1), (2, .int p2)] := hl
  refine lv_iload_n hx hb dX4_costOfStart_0 rfl (lv_at hl 1 rfl) ?_
  refine lv_aload_n hx hb dX4_costOfStart_1 rfl (lv_at hl 0 rfl) ?_
  refine fwg_11_4 (v := (u.1 13)) hx hb hts hinX4 hown hK hP (hts (.fieldLink RX4 25 "FilmBench$Steady" "stray" "I") (by decide +kernel)) dX4_costOfStart_2 rfl ?_
  refine lv_isub hx hb dX4_costOfStart_5 ?_
  refine gabs hx hb (hml.trans hl.1.symm) (own := RX4) hown hts (by decide +kernel) (Nat.le_of_ble_eq_true rfl) (Nat.le_of_ble_eq_true rfl) (Nat.zero_le _) (Nat.zero_le _) dX4_costOfStart_6 ?_
  refine lv_iload_n hx hb dX4_costOfStart_9 rfl (lv_at hl 2 rfl) ?_
  refine lv_aload_n hx hb dX4_costOfStart_10 rfl (lv_at hl 0 rfl) ?_
  refine fwg_11_4 (v := (u.1 13)) hx hb hts hinX4 hown hK hP (hts (.fieldLink RX4 25 "FilmBench$Steady" "stray" "I") (by decide +kernel)) dX4_costOfStart_11 rfl ?_
  refine lv_isub hx hb dX4_costOfStart_14 ?_
  refine gabs hx hb (hml.trans hl.1.symm) (own := RX4) hown hts (by decide +kernel) (Nat.le_of_ble_eq_true rfl) (Nat.le_of_ble_eq_true rfl) (Nat.zero_le _) (Nat.zero_le _) dX4_costOfStart_15 ?_
  refine lv_iadd hx hb dX4_costOfStart_18 ?_
  refine lv_aload_n hx hb dX4_costOfStart_19 rfl (lv_at hl 0 rfl) ?_
  refine fwg_11_2 hx hb hts hinX4 hown hK hP (hts (.fieldLink RX4 18 "FilmBench$Steady" "costsBehind" "[I") (by decide +kernel)) dX4_costOfStart_20 ?_
  refine lv_iconst (v := (0 : Int32)) hx hb dX4_costOfStart_23 (by decide) ?_
  refine lv_iload_n hx hb dX4_costOfStart_24 rfl (lv_at hl 1 rfl) ?_
  refine lv_iload_n hx hb dX4_costOfStart_25 rfl (lv_at hl 2 rfl) ?_
  refine gcallSi (As := [.int (0 : Int32), .int p1, .int p2]) (rest := [.ref (adr 14), .int ((jabs (p1 - (u.1 13))) + (jabs (p2 - (u.1 13))))]) ⟨hx, hb, hml, hown, hts⟩ (c_X4_slotOf l D cI cZ adr A hD (0 : Int32) p1 p2 u _ h) (va_cwS 3 hts gX4_costOfStart_X4_slotOf rfl rfl rfl (by decide +kernel) ⟨Nat.le_of_ble_eq_true rfl, Nat.le_of_ble_eq_true rfl⟩) hK hP hS rfl hl.1 rfl (Nat.le_of_ble_eq_true rfl) dX4_costOfStart_26 ⟨Nat.le_refl _, Nat.le_refl _⟩ (fun r26 u26 H locs h hP hS => ?_)
  refine fwl_14 (v := ((u26.2 14) r26.toNatClampNeg)) hx hb hK hP h.1 dX4_costOfStart_29 rfl ?_
  have h := h.2
  refine lv_iadd hx hb dX4_costOfStart_30 ?_
  exact giret hx hb hr hlocks hK hP hS h dX4_costOfStart_31
set_option maxRecDepth 100000 in
set_option maxHeartbeats 4000000 in
theorem c_X4_leastThird (l : Launch) (D : va_G) (cI cZ : ClassId) (adr : Nat → Nat) (A : Nat → Prop) (hD : ∀ u, va_D A (fw adr cI cZ u)) (p1 : Int32) (p2 : Int32) (p3 : Int32) (u : US) (post : Int32 → US → Prop) (h : wp_X4_leastThird p1 p2 p3 u post) : gMi l yX4_leastThird wsX4_leastThird 2 D cI cZ (fw adr cI cZ) A [.ref (adr 11), .int p1, .int p2, .int p3] u post := by
  refine Met.ofW (cc := cX4_leastThird) (maxL := 6) (ret := (some .int)) (by decide) rfl ?_
  intro p e s m args below meth c s₁ B hml hv
  obtain ⟨rfl, hP, hK⟩ := hv
  have hx := B.exec
  have hb := B.bytes
  have hr := B.returns
  have hts := atoms_spec (ws := wsX4_leastThird) B.pre
  have hown : s.vm.findClass RX4 = some m.cls := findClass_of_methodNamed B.named
  have hlocks := B.notSynchronized
  have hinX4 : ∀ w ∈ wsX40, w ∈ wsX4_leastThird := by decide +kernel
  have hS : va_S A s.heap s.heap [] := va_S.rf
  have L6 : ∀ (n : Nat), ∀ (x1 : Int32) (x2 : Int32) (x3 : Int32) (x4 : Int32) (x5 : Int32) (u : US) (H : Heap) (locs : List Loc) (ls : Array Slot), lv_has ls 6 [(0, .ref (adr 11)), (1, .int x1), (2, .int x2), (3, .int x3), (4, .int x4), (5, .int x5)] → va_P D vwCl (fw adr cI cZ u) H → va_S A s.heap H locs → wp_X4_leastThird_6  post n x1 x2 x3 x4 x5 u → gWi p l e wsX4_leastThird 2 s m [.ref (adr 11), .int p1, .int p2, .int p3] below meth c D cI cZ (fw adr cI cZ) A post H locs (F0 m 6 ls []) := by
    intro  n
    induction n with
    | zero => intro x1 x2 x3 x4 x5 u H locs ls hl hP hS h; exact False.elim h
    | succ n ih =>
      intro x1 x2 x3 x4 x5 u H locs ls hl hP hS h
      refine lv_iload hx hb dX4_leastThird_6 (lv_at hl 5 rfl) ?_
      refine lv_aload_n hx hb dX4_leastThird_8 rfl (lv_at hl 0 rfl) ?_
      refine fwg_11_5 (v := (u.1 14)) hx hb hts hinX4 hown hK hP (hts (.fieldLink RX4 28 "FilmBench$Steady" "choices" "I") (by decide +kernel)) dX4_leastThird_9 rfl ?_
      refine lv_icmp_ge (tgt := 46) hx hb dX4_leastThird_12 (by decide) (fun hc => ?_) (fun hc => ?_)
      · have h := h.1 hc
        refine lv_iload hx hb dX4_leastThird_46 (lv_at hl 4 rfl) ?_
        exact giret hx hb hr hlocks hK hP hS h dX4_leastThird_48
      · have h := h.2 hc
        refine lv_aload_n hx hb dX4_leastThird_15 rfl (lv_at hl 0 rfl) ?_
        refine lv_iload_n hx hb dX4_leastThird_16 rfl (lv_at hl 1 rfl) ?_
        refine lv_iload_n hx hb dX4_leastThird_17 rfl (lv_at hl 2 rfl) ?_
        refine lv_iload_n hx hb dX4_leastThird_18 rfl (lv_at hl 3 rfl) ?_
        refine lv_iload hx hb dX4_leastThird_19 (lv_at hl 5 rfl) ?_
        refine gcallVi (As := [.int x1, .int x2, .int x3, .int x5]) (rest := []) ⟨hx, hb, hml, hown, hts⟩ (c_X4_costThrough l D cI cZ adr A hD x1 x2 x3 x5 u _ h) (cwV 4 hts gX4_leastThird_X4_costThrough rfl rfl rfl (by decide +kernel) ⟨Nat.le_of_ble_eq_true rfl, Nat.le_of_ble_eq_true rfl⟩) (va_recv hK hP (ci := 4) (q0 := 11) rfl rfl) hK hP hS rfl hl.1 rfl (Nat.le_of_ble_eq_true rfl) dX4_leastThird_21 ⟨Nat.le_refl _, Nat.le_refl _⟩ (fun r21 u21 H locs h hP hS => ?_)
        refine lv_aload_n hx hb dX4_leastThird_24 rfl (lv_at hl 0 rfl) ?_
        refine lv_iload_n hx hb dX4_leastThird_25 rfl (lv_at hl 1 rfl) ?_
        refine lv_iload_n hx hb dX4_leastThird_26 rfl (lv_at hl 2 rfl) ?_
        refine lv_iload_n hx hb dX4_leastThird_27 rfl (lv_at hl 3 rfl) ?_
        refine lv_iload hx hb dX4_leastThird_28 (lv_at hl 4 rfl) ?_
        refine gcallVi (As := [.int x1, .int x2, .int x3, .int x4]) (rest := [.int r21]) ⟨hx, hb, hml, hown, hts⟩ (c_X4_costThrough l D cI cZ adr A hD x1 x2 x3 x4 u21 _ h) (cwV 4 hts gX4_leastThird_X4_costThrough rfl rfl rfl (by decide +kernel) ⟨Nat.le_of_ble_eq_true rfl, Nat.le_of_ble_eq_true rfl⟩) (va_recv hK hP (ci := 4) (q0 := 11) rfl rfl) hK hP hS rfl hl.1 rfl (Nat.le_of_ble_eq_true rfl) dX4_leastThird_30 ⟨Nat.le_refl _, Nat.le_refl _⟩ (fun r30 u30 H locs h hP hS => ?_)
        refine lv_icmp_ge (tgt := 40) hx hb dX4_leastThird_33 (by decide) (fun hc => ?_) (fun hc => ?_)
        · have h := h.1 hc
          refine lv_iinc (v := (x5 + 1)) (lv' := [(5, .int (x5 + 1)), (0, .ref (adr 11)), (1, .int x1), (2, .int x2), (3, .int x3), (4, .int x4)]) hx hb dX4_leastThird_40 hl (k := 5) rfl (congrArg (HAdd.hAdd _) (show Int32.ofInt (1) = (1 : Int32) by decide)) (by decide) rfl (fun ls hl => ?_)
          refine lv_goto (tgt := 6) hx hb dX4_leastThird_43 (by decide) ?_
          exact ih x1 x2 x3 x4 (x5 + 1) u30 _ _ _ (lv_sub hl [1, 2, 3, 4, 5, 0] rfl) hP hS h
        · have h := h.2 hc
          refine lv_iload hx hb dX4_leastThird_36 (lv_at hl 5 rfl) ?_
          refine lv_istore (lv' := [(4, .int x5), (0, .ref (adr 11)), (1, .int x1), (2, .int x2), (3, .int x3), (5, .int x5)]) hx hb dX4_leastThird_38 hl (by decide) rfl (fun ls hl => ?_)
          refine lv_iinc (v := (x5 + 1)) (lv' := [(5, .int (x5 + 1)), (4, .int x5), (0, .ref (adr 11)), (1, .int x1), (2, .int x2), (3, .int x3)]) hx hb dX4_leastThird_40 hl (k := 5) rfl (congrArg (HAdd.hAdd _) (show Int32.ofInt (1) = (1 : Int32) by decide)) (by decide) rfl (fun ls hl => ?_)
          refine lv_goto (tgt := 6) hx hb dX4_leastThird_43 (by decide) ?_
          exact ih x1 x2 x3 x5 (x5 + 1) u30 _ _ _ (lv_sub hl [2, 3, 4, 5, 1, 0] rfl) hP hS h
  have hl := lv_entry ([.ref (adr 11), .int p1, .int p2, .int p3]) (n := 6) (Nat.le_of_ble_eq_true rfl)
  rw [lg_entry_eq]
  generalize (lg_sl ([.ref (adr 11), .int p1, .int p2, .int p3]) ++ List.replicate (6 - (lg_sl ([.ref (adr 11), .int p1, .int p2, .int p3])).length) Slot.unset).toArray = ls at hl ⊢
  replace hl : lv_has ls 6 [(0, .ref (adr 11)), (1, .int p1), (2, .int p2), (3, .int p3)] := hl
  refine lv_iconst (v := (0 : Int32)) hx hb dX4_leastThird_0 (by decide) ?_
  refine lv_istore (lv' := [(4, .int (0 : Int32)), (0, .ref (adr 11)), (1, .int p1), (2, .int p2), (3, .int p3)]) hx hb dX4_leastThird_1 hl (by decide) rfl (fun ls hl => ?_)
  refine lv_iconst (v := (1 : Int32)) hx hb dX4_leastThird_3 (by decide) ?_
  refine lv_istore (lv' := [(5, .int (1 : Int32)), (4, .int (0 : Int32)), (0, .ref (adr 11)), (1, .int p1), (2, .int p2), (3, .int p3)]) hx hb dX4_leastThird_4 hl (by decide) rfl (fun ls hl => ?_)
  obtain ⟨n, h⟩ := h
  exact L6  n p1 p2 p3 (0 : Int32) (1 : Int32) u _ _ _ (lv_sub hl [2, 3, 4, 5, 1, 0] rfl) hP hS h
set_option maxRecDepth 100000 in
set_option maxHeartbeats 4000000 in
theorem c_X4_takeChoices (l : Launch) (D : va_G) (cI cZ : ClassId) (adr : Nat → Nat) (A : Nat → Prop) (hD : ∀ u, va_D A (fw adr cI cZ u))  (u : US) (post : US → Prop) (h : wp_X4_takeChoices  u post) : gMv l yX4_takeChoices wsX4_takeChoices 3 D cI cZ (fw adr cI cZ) A [.ref (adr 11)] u post := by
  refine Met.ofW (cc := cX4_takeChoices) (maxL := 7) (ret := none) (by decide) rfl ?_
  intro p e s m args below meth c s₁ B hml hv
  obtain ⟨rfl, hP, hK⟩ := hv
  have hx := B.exec
  have hb := B.bytes
  have hr := B.returns
  have hts := atoms_spec (ws := wsX4_takeChoices) B.pre
  have hown : s.vm.findClass RX4 = some m.cls := findClass_of_methodNamed B.named
  have hlocks := B.notSynchronized
  have hinX4 : ∀ w ∈ wsX40, w ∈ wsX4_takeChoices := by decide +kernel
  have hS : va_S A s.heap s.heap [] := va_S.rf
  have L26 : ∀ (k14 : Int32 → Int32 → Int32 → Int32 → US → Prop) (hk14 : ∀ (x1 : Int32) (x2 : Int32) (x3 : Int32) (x4 : Int32) (u : US) (H : Heap) (locs : List Loc) (ls : Array Slot), lv_has ls 7 [(0, .ref (adr 11)), (1, .int x1), (2, .int x2), (3, .int x3), (4, .int x4)] → va_P D vwCl (fw adr cI cZ u) H → va_S A s.heap H locs → k14 x1 x2 x3 x4 u → gWv p l e wsX4_takeChoices 3 s m [.ref (adr 11)] below meth c D cI cZ (fw adr cI cZ) A post H locs (F0 m 14 ls [])), ∀ (n : Nat), ∀ (x1 : Int32) (x2 : Int32) (x3 : Int32) (x4 : Int32) (x5 : Int32) (u : US) (H : Heap) (locs : List Loc) (ls : Array Slot), lv_has ls 7 [(0, .ref (adr 11)), (1, .int x1), (2, .int x2), (3, .int x3), (4, .int x4), (5, .int x5)] → va_P D vwCl (fw adr cI cZ u) H → va_S A s.heap H locs → wp_X4_takeChoices_26 k14 post n x1 x2 x3 x4 x5 u → gWv p l e wsX4_takeChoices 3 s m [.ref (adr 11)] below meth c D cI cZ (fw adr cI cZ) A post H locs (F0 m 26 ls []) := by
    intro k14 hk14 n
    induction n with
    | zero => intro x1 x2 x3 x4 x5 u H locs ls hl hP hS h; exact False.elim h
    | succ n ih =>
      intro x1 x2 x3 x4 x5 u H locs ls hl hP hS h
      refine lv_iload hx hb dX4_takeChoices_26 (lv_at hl 5 rfl) ?_
      refine lv_aload_n hx hb dX4_takeChoices_28 rfl (lv_at hl 0 rfl) ?_
      refine fwg_11_5 (v := (u.1 14)) hx hb hts hinX4 hown hK hP (hts (.fieldLink RX4 28 "FilmBench$Steady" "choices" "I") (by decide +kernel)) dX4_takeChoices_29 rfl ?_
      refine lv_icmp_ge (tgt := 66) hx hb dX4_takeChoices_32 (by decide) (fun hc => ?_) (fun hc => ?_)
      · have h := h.1 hc
        refine lv_iinc (v := (x4 + 1)) (lv' := [(4, .int (x4 + 1)), (0, .ref (adr 11)), (1, .int x1), (2, .int x2), (3, .int x3), (5, .int x5)]) hx hb dX4_takeChoices_66 hl (k := 4) rfl (congrArg (HAdd.hAdd _) (show Int32.ofInt (1) = (1 : Int32) by decide)) (by decide) rfl (fun ls hl => ?_)
        refine lv_goto (tgt := 14) hx hb dX4_takeChoices_69 (by decide) ?_
        exact hk14 x1 x2 x3 (x4 + 1) u _ _ _ (lv_sub hl [1, 2, 3, 4, 0] rfl) hP hS h
      · have h := h.2 hc
        refine lv_aload_n hx hb dX4_takeChoices_35 rfl (lv_at hl 0 rfl) ?_
        refine lv_iload hx hb dX4_takeChoices_36 (lv_at hl 4 rfl) ?_
        refine lv_iload hx hb dX4_takeChoices_38 (lv_at hl 5 rfl) ?_
        refine gcallVi (As := [.int x4, .int x5]) (rest := []) ⟨hx, hb, hml, hown, hts⟩ (c_X4_costOfStart l D cI cZ adr A hD x4 x5 u _ h) (cwV 2 hts gX4_takeChoices_X4_costOfStart rfl rfl rfl (by decide +kernel) ⟨Nat.le_of_ble_eq_true rfl, Nat.le_of_ble_eq_true rfl⟩) (va_recv hK hP (ci := 4) (q0 := 11) rfl rfl) hK hP hS rfl hl.1 rfl (Nat.le_of_ble_eq_true rfl) dX4_takeChoices_40 ⟨Nat.le_refl _, Nat.le_refl _⟩ (fun r40 u40 H locs h hP hS => ?_)
        refine lv_istore (lv' := [(6, .int r40), (0, .ref (adr 11)), (1, .int x1), (2, .int x2), (3, .int x3), (4, .int x4), (5, .int x5)]) hx hb dX4_takeChoices_43 hl (by decide) rfl (fun ls hl => ?_)
        refine lv_iload hx hb dX4_takeChoices_45 (lv_at hl 0 rfl) ?_
        refine lv_iload_n hx hb dX4_takeChoices_47 rfl (lv_at hl 4 rfl) ?_
        refine lv_icmp_ge (tgt := 60) hx hb dX4_takeChoices_48 (by decide) (fun hc => ?_) (fun hc => ?_)
        · have h := h.1 hc
          refine lv_iinc (v := (x5 + 1)) (lv' := [(5, .int (x5 + 1)), (6, .int r40), (0, .ref (adr 11)), (1, .int x1), (2, .int x2), (3, .int x3), (4, .int x4)]) hx hb dX4_takeChoices_60 hl (k := 6) rfl (congrArg (HAdd.hAdd _) (show Int32.ofInt (1) = (1 : Int32) by decide)) (by decide) rfl (fun ls hl => ?_)
          refine lv_goto (tgt := 26) hx hb dX4_takeChoices_63 (by decide) ?_
          exact ih x1 x2 x3 x4 (x5 + 1) u40 _ _ _ (lv_sub hl [2, 3, 4, 5, 6, 0] rfl) hP hS h
        · have h := h.2 hc
          refine lv_iload hx hb dX4_takeChoices_51 (lv_at hl 0 rfl) ?_
          refine lv_istore_n (lv' := [(3, .int r40), (6, .int r40), (0, .ref (adr 11)), (1, .int x1), (2, .int x2), (4, .int x4), (5, .int x5)]) hx hb dX4_takeChoices_53 rfl hl (by decide) rfl (fun ls hl => ?_)
          refine lv_iload hx hb dX4_takeChoices_54 (lv_at hl 5 rfl) ?_
          refine lv_istore_n (lv' := [(1, .int x4), (3, .int r40), (6, .int r40), (0, .ref (adr 11)), (2, .int x2), (4, .int x4), (5, .int x5)]) hx hb dX4_takeChoices_56 rfl hl (by decide) rfl (fun ls hl => ?_)
          refine lv_iload hx hb dX4_takeChoices_57 (lv_at hl 6 rfl) ?_
          refine lv_istore_n (lv' := [(2, .int x5), (1, .int x4), (3, .int r40), (6, .int r40), (0, .ref (adr 11)), (4, .int x4), (5, .int x5)]) hx hb dX4_takeChoices_59 rfl hl (by decide) rfl (fun ls hl => ?_)
          refine lv_iinc (v := (x5 + 1)) (lv' := [(5, .int (x5 + 1)), (2, .int x5), (1, .int x4), (3, .int r40), (6, .int r40), (0, .ref (adr 11)), (4, .int x4)]) hx hb dX4_takeChoices_60 hl (k := 6) rfl (congrArg (HAdd.hAdd _) (show Int32.ofInt (1) = (1 : Int32) by decide)) (by decide) rfl (fun ls hl => ?_)
          refine lv_goto (tgt := 26) hx hb dX4_takeChoices_63 (by decide) ?_
          exact ih x4 x5 r40 x4 (x5 + 1) u40 _ _ _ (lv_sub hl [5, 2, 1, 3, 6, 0] rfl) hP hS h
  have L99 : ∀ (n : Nat), ∀ (x1 : Int32) (x2 : Int32) (x4 : Int32) (u : US) (H : Heap) (locs : List Loc) (ls : Array Slot), lv_has ls 7 [(0, .ref (adr 11)), (1, .int x1), (2, .int x2), (4, .int x4)] → va_P D vwCl (fw adr cI cZ u) H → va_S A s.heap H locs → wp_X4_takeChoices_99  post n x1 x2 x4 u → gWv p l e wsX4_takeChoices 3 s m [.ref (adr 11)] below meth c D cI cZ (fw adr cI cZ) A post H locs (F0 m 99 ls []) := by
    intro  n
    induction n with
    | zero => intro x1 x2 x4 u H locs ls hl hP hS h; exact False.elim h
    | succ n ih =>
      intro x1 x2 x4 u H locs ls hl hP hS h
      refine lv_iload hx hb dX4_takeChoices_99 (lv_at hl 3 rfl) ?_
      refine lv_iconst (v := (2 : Int32)) hx hb dX4_takeChoices_101 (by decide) ?_
      refine lv_iadd hx hb dX4_takeChoices_102 ?_
      refine lv_aload_n hx hb dX4_takeChoices_103 rfl (lv_at hl 0 rfl) ?_
      refine fwg_11_3 (v := (u.1 12)) hx hb hts hinX4 hown hK hP (hts (.fieldLink RX4 21 "FilmBench$Steady" "frames" "I") (by decide +kernel)) dX4_takeChoices_104 rfl ?_
      refine lv_icmp_ge (tgt := 150) hx hb dX4_takeChoices_107 (by decide) (fun hc => ?_) (fun hc => ?_)
      · have h := h.1 hc
        exact gvret hx hb hr hlocks hK hP hS h dX4_takeChoices_150
      · have h := h.2 hc
        refine lv_aload_n hx hb dX4_takeChoices_110 rfl (lv_at hl 0 rfl) ?_
        refine lv_iload hx hb dX4_takeChoices_111 (lv_at hl 3 rfl) ?_
        refine lv_iload_n hx hb dX4_takeChoices_113 rfl (lv_at hl 1 rfl) ?_
        refine lv_iload_n hx hb dX4_takeChoices_114 rfl (lv_at hl 2 rfl) ?_
        refine gcallVi (As := [.int x4, .int x1, .int x2]) (rest := []) ⟨hx, hb, hml, hown, hts⟩ (c_X4_leastThird l D cI cZ adr A hD x4 x1 x2 u _ h) (cwV 3 hts gX4_takeChoices_X4_leastThird rfl rfl rfl (by decide +kernel) ⟨Nat.le_of_ble_eq_true rfl, Nat.le_of_ble_eq_true rfl⟩) (va_recv hK hP (ci := 4) (q0 := 11) rfl rfl) hK hP hS rfl hl.1 rfl (Nat.le_of_ble_eq_true rfl) dX4_takeChoices_115 ⟨Nat.le_refl _, Nat.le_refl _⟩ (fun r115 u115 H locs h hP hS => ?_)
        refine lv_istore (lv' := [(5, .int r115), (0, .ref (adr 11)), (1, .int x1), (2, .int x2), (4, .int x4)]) hx hb dX4_takeChoices_118 hl (by decide) rfl (fun ls hl => ?_)
        refine lv_aload_n hx hb dX4_takeChoices_120 rfl (lv_at hl 1 rfl) ?_
        refine fwg_11_1 hx hb hts hinX4 hown hK hP (hts (.fieldLink RX4 15 "FilmBench$Steady" "spots" "[I") (by decide +kernel)) dX4_takeChoices_121 ?_
        refine lv_iload hx hb dX4_takeChoices_124 (lv_at hl 4 rfl) ?_
        refine lv_iconst (v := (2 : Int32)) hx hb dX4_takeChoices_126 (by decide) ?_
        refine lv_iadd hx hb dX4_takeChoices_127 ?_
        refine lv_aload_n hx hb dX4_takeChoices_128 rfl (lv_at hl 1 rfl) ?_
        refine lv_iload hx hb dX4_takeChoices_129 (lv_at hl 4 rfl) ?_
        refine lv_iconst (v := (2 : Int32)) hx hb dX4_takeChoices_131 (by decide) ?_
        refine lv_iadd hx hb dX4_takeChoices_132 ?_
        refine lv_iload hx hb dX4_takeChoices_133 (lv_at hl 0 rfl) ?_
        refine gcallVi (As := [.int (x4 + (2 : Int32)), .int r115]) (rest := [.int (x4 + (2 : Int32)), .ref (adr 13)]) ⟨hx, hb, hml, hown, hts⟩ (c_X4_spotOf l D cI cZ adr A hD (x4 + (2 : Int32)) r115 u115 _ h) (cwV 2 hts gX4_takeChoices_X4_spotOf rfl rfl rfl (by decide +kernel) ⟨Nat.le_of_ble_eq_true rfl, Nat.le_of_ble_eq_true rfl⟩) (va_recv hK hP (ci := 4) (q0 := 11) rfl rfl) hK hP hS rfl hl.1 rfl (Nat.le_of_ble_eq_true rfl) dX4_takeChoices_135 ⟨Nat.le_refl _, Nat.le_refl _⟩ (fun r135 u135 H locs h hP hS => ?_)
        refine fws_13 hx hb hK hP (hD _) hS h.1 dX4_takeChoices_138 (fun H locs hP hS => ?_)
        have h := h.2
        refine lv_iload_n hx hb dX4_takeChoices_139 rfl (lv_at hl 3 rfl) ?_
        refine lv_istore_n (lv' := [(1, .int x2), (5, .int r115), (0, .ref (adr 11)), (2, .int x2), (4, .int x4)]) hx hb dX4_takeChoices_140 rfl hl (by decide) rfl (fun ls hl => ?_)
        refine lv_iload hx hb dX4_takeChoices_141 (lv_at hl 1 rfl) ?_
        refine lv_istore_n (lv' := [(2, .int r115), (1, .int x2), (5, .int r115), (0, .ref (adr 11)), (4, .int x4)]) hx hb dX4_takeChoices_143 rfl hl (by decide) rfl (fun ls hl => ?_)
        refine lv_iinc (v := (x4 + 1)) (lv' := [(4, .int (x4 + 1)), (2, .int r115), (1, .int x2), (5, .int r115), (0, .ref (adr 11))]) hx hb dX4_takeChoices_144 hl (k := 4) rfl (congrArg (HAdd.hAdd _) (show Int32.ofInt (1) = (1 : Int32) by decide)) (by decide) rfl (fun ls hl => ?_)
        refine lv_goto (tgt := 99) hx hb dX4_takeChoices_147 (by decide) ?_
        exact ih x2 r115 (x4 + 1) (sA u135 13 (upd (u135.2 13) (x4 + (2 : Int32)).toNatClampNeg r135)) _ _ _ (lv_sub hl [4, 2, 1, 0] rfl) hP hS h
  have L14 : ∀ (n : Nat), ∀ (x1 : Int32) (x2 : Int32) (x3 : Int32) (x4 : Int32) (u : US) (H : Heap) (locs : List Loc) (ls : Array Slot), lv_has ls 7 [(0, .ref (adr 11)), (1, .int x1), (2, .int x2), (3, .int x3), (4, .int x4)] → va_P D vwCl (fw adr cI cZ u) H → va_S A s.heap H locs → wp_X4_takeChoices_14  post n x1 x2 x3 x4 u → gWv p l e wsX4_takeChoices 3 s m [.ref (adr 11)] below meth c D cI cZ (fw adr cI cZ) A post H locs (F0 m 14 ls []) := by
    intro  n
    induction n with
    | zero => intro x1 x2 x3 x4 u H locs ls hl hP hS h; exact False.elim h
    | succ n ih =>
      intro x1 x2 x3 x4 u H locs ls hl hP hS h
      refine lv_iload hx hb dX4_takeChoices_14 (lv_at hl 4 rfl) ?_
      refine lv_aload_n hx hb dX4_takeChoices_16 rfl (lv_at hl 0 rfl) ?_
      refine fwg_11_5 (v := (u.1 14)) hx hb hts hinX4 hown hK hP (hts (.fieldLink RX4 28 "FilmBench$Steady" "choices" "I") (by decide +kernel)) dX4_takeChoices_17 rfl ?_
      refine lv_icmp_ge (tgt := 72) hx hb dX4_takeChoices_20 (by decide) (fun hc => ?_) (fun hc => ?_)
      · have h := h.1 hc
        refine lv_aload_n hx hb dX4_takeChoices_72 rfl (lv_at hl 0 rfl) ?_
        refine fwg_11_1 hx hb hts hinX4 hown hK hP (hts (.fieldLink RX4 15 "FilmBench$Steady" "spots" "[I") (by decide +kernel)) dX4_takeChoices_73 ?_
        refine lv_iconst (v := (0 : Int32)) hx hb dX4_takeChoices_76 (by decide) ?_
        refine lv_aload_n hx hb dX4_takeChoices_77 rfl (lv_at hl 0 rfl) ?_
        refine lv_iconst (v := (0 : Int32)) hx hb dX4_takeChoices_78 (by decide) ?_
        refine lv_iload_n hx hb dX4_takeChoices_79 rfl (lv_at hl 1 rfl) ?_
        refine gcallVi (As := [.int (0 : Int32), .int x1]) (rest := [.int (0 : Int32), .ref (adr 13)]) ⟨hx, hb, hml, hown, hts⟩ (c_X4_spotOf l D cI cZ adr A hD (0 : Int32) x1 u _ h) (cwV 2 hts gX4_takeChoices_X4_spotOf rfl rfl rfl (by decide +kernel) ⟨Nat.le_of_ble_eq_true rfl, Nat.le_of_ble_eq_true rfl⟩) (va_recv hK hP (ci := 4) (q0 := 11) rfl rfl) hK hP hS rfl hl.1 rfl (Nat.le_of_ble_eq_true rfl) dX4_takeChoices_80 ⟨Nat.le_refl _, Nat.le_refl _⟩ (fun r80 u80 H locs h hP hS => ?_)
        refine fws_13 hx hb hK hP (hD _) hS (by unfold vp_in; decide) dX4_takeChoices_83 (fun H locs hP hS => ?_)
        refine lv_aload_n hx hb dX4_takeChoices_84 rfl (lv_at hl 0 rfl) ?_
        refine fwg_11_1 hx hb hts hinX4 hown hK hP (hts (.fieldLink RX4 15 "FilmBench$Steady" "spots" "[I") (by decide +kernel)) dX4_takeChoices_85 ?_
        refine lv_iconst (v := (1 : Int32)) hx hb dX4_takeChoices_88 (by decide) ?_
        refine lv_aload_n hx hb dX4_takeChoices_89 rfl (lv_at hl 0 rfl) ?_
        refine lv_iconst (v := (1 : Int32)) hx hb dX4_takeChoices_90 (by decide) ?_
        refine lv_iload_n hx hb dX4_takeChoices_91 rfl (lv_at hl 2 rfl) ?_
        refine gcallVi (As := [.int (1 : Int32), .int x2]) (rest := [.int (1 : Int32), .ref (adr 13)]) ⟨hx, hb, hml, hown, hts⟩ (c_X4_spotOf l D cI cZ adr A hD (1 : Int32) x2 (sA u80 13 (upd (u80.2 13) (0 : Int32).toNatClampNeg r80)) _ h) (cwV 2 hts gX4_takeChoices_X4_spotOf rfl rfl rfl (by decide +kernel) ⟨Nat.le_of_ble_eq_true rfl, Nat.le_of_ble_eq_true rfl⟩) (va_recv hK hP (ci := 4) (q0 := 11) rfl rfl) hK hP hS rfl hl.1 rfl (Nat.le_of_ble_eq_true rfl) dX4_takeChoices_92 ⟨Nat.le_refl _, Nat.le_refl _⟩ (fun r92 u92 H locs h hP hS => ?_)
        refine fws_13 hx hb hK hP (hD _) hS (by unfold vp_in; decide) dX4_takeChoices_95 (fun H locs hP hS => ?_)
        refine lv_iconst (v := (0 : Int32)) hx hb dX4_takeChoices_96 (by decide) ?_
        refine lv_istore (lv' := [(4, .int (0 : Int32)), (0, .ref (adr 11)), (1, .int x1), (2, .int x2), (3, .int x3)]) hx hb dX4_takeChoices_97 hl (by decide) rfl (fun ls hl => ?_)
        obtain ⟨n, h⟩ := h
        exact L99  n x1 x2 (0 : Int32) (sA u92 13 (upd (u92.2 13) (1 : Int32).toNatClampNeg r92)) _ _ _ (lv_sub hl [1, 2, 3, 0] rfl) hP hS h
      · have h := h.2 hc
        refine lv_iconst (v := (0 : Int32)) hx hb dX4_takeChoices_23 (by decide) ?_
        refine lv_istore (lv' := [(5, .int (0 : Int32)), (0, .ref (adr 11)), (1, .int x1), (2, .int x2), (3, .int x3), (4, .int x4)]) hx hb dX4_takeChoices_24 hl (by decide) rfl (fun ls hl => ?_)
        obtain ⟨n, h⟩ := h
        exact L26 _ ih n x1 x2 x3 x4 (0 : Int32) u _ _ _ (lv_sub hl [1, 2, 3, 4, 5, 0] rfl) hP hS h
  have hl := lv_entry ([.ref (adr 11)]) (n := 7) (Nat.le_of_ble_eq_true rfl)
  rw [lg_entry_eq]
  generalize (lg_sl ([.ref (adr 11)]) ++ List.replicate (7 - (lg_sl ([.ref (adr 11)])).length) Slot.unset).toArray = ls at hl ⊢
  replace hl : lv_has ls 7 [(0, .ref (adr 11))] := hl
  refine lv_iconst (v := (0 : Int32)) hx hb dX4_takeChoices_0 (by decide) ?_
  refine lv_istore_n (lv' := [(1, .int (0 : Int32)), (0, .ref (adr 11))]) hx hb dX4_takeChoices_1 rfl hl (by decide) rfl (fun ls hl => ?_)
  refine lv_iconst (v := (0 : Int32)) hx hb dX4_takeChoices_2 (by decide) ?_
  refine lv_istore_n (lv' := [(2, .int (0 : Int32)), (1, .int (0 : Int32)), (0, .ref (adr 11))]) hx hb dX4_takeChoices_3 rfl hl (by decide) rfl (fun ls hl => ?_)
  refine lv_aload_n hx hb dX4_takeChoices_4 rfl (lv_at hl 2 rfl) ?_
  refine lv_iconst (v := (0 : Int32)) hx hb dX4_takeChoices_5 (by decide) ?_
  refine lv_iconst (v := (0 : Int32)) hx hb dX4_takeChoices_6 (by decide) ?_
  refine gcallVi (As := [.int (0 : Int32), .int (0 : Int32)]) (rest := []) ⟨hx, hb, hml, hown, hts⟩ (c_X4_costOfStart l D cI cZ adr A hD (0 : Int32) (0 : Int32) u _ h) (cwV 2 hts gX4_takeChoices_X4_costOfStart rfl rfl rfl (by decide +kernel) ⟨Nat.le_of_ble_eq_true rfl, Nat.le_of_ble_eq_true rfl⟩) (va_recv hK hP (ci := 4) (q0 := 11) rfl rfl) hK hP hS rfl hl.1 rfl (Nat.le_of_ble_eq_true rfl) dX4_takeChoices_7 ⟨Nat.le_refl _, Nat.le_refl _⟩ (fun r7 u7 H locs h hP hS => ?_)
  refine lv_istore_n (lv' := [(3, .int r7), (2, .int (0 : Int32)), (1, .int (0 : Int32)), (0, .ref (adr 11))]) hx hb dX4_takeChoices_10 rfl hl (by decide) rfl (fun ls hl => ?_)
  refine lv_iconst (v := (0 : Int32)) hx hb dX4_takeChoices_11 (by decide) ?_
  refine lv_istore (lv' := [(4, .int (0 : Int32)), (3, .int r7), (2, .int (0 : Int32)), (1, .int (0 : Int32)), (0, .ref (adr 11))]) hx hb dX4_takeChoices_12 hl (by decide) rfl (fun ls hl => ?_)
  obtain ⟨n, h⟩ := h
  exact L14  n (0 : Int32) (0 : Int32) r7 (0 : Int32) u7 _ _ _ (lv_sub hl [4, 3, 2, 1, 0] rfl) hP hS h
set_option maxRecDepth 100000 in
set_option maxHeartbeats 4000000 in
theorem c_X4_solve (l : Launch) (D : va_G) (cI cZ : ClassId) (adr : Nat → Nat) (A : Nat → Prop) (hD : ∀ u, va_D A (fw adr cI cZ u)) (p1 : Int32) (p2 : Int32) (u : US) (post : US → Prop) (h : wp_X4_solve p1 p2 u post) : gMv l yX4_solve wsX4_solve 4 D cI cZ (fw adr cI cZ) A [.ref (adr 11), .int p1, .int p2] u post := by
  refine Met.ofW (cc := cX4_solve) (maxL := 3) (ret := none) (by decide) rfl ?_
  intro p e s m args below meth c s₁ B hml hv
  obtain ⟨rfl, hP, hK⟩ := hv
  have hx := B.exec
  have hb := B.bytes
  have hr := B.returns
  have hts := atoms_spec (ws := wsX4_solve) B.pre
  have hown : s.vm.findClass RX4 = some m.cls := findClass_of_methodNamed B.named
  have hlocks := B.notSynchronized
  have hinX4 : ∀ w ∈ wsX40, w ∈ wsX4_solve := by decide +kernel
  have hS : va_S A s.heap s.heap [] := va_S.rf
  have hl := lv_entry ([.ref (adr 11), .int p1, .int p2]) (n := 3) (Nat.le_of_ble_eq_true rfl)
  rw [lg_entry_eq]
  generalize (lg_sl ([.ref (adr 11), .int p1, .int p2]) ++ List.replicate (3 - (lg_sl ([.ref (adr 11), .int p1, .int p2])).length) Slot.unset).toArray = ls at hl ⊢
  replace hl : lv_has ls 3 [(0, .ref (adr 11)), (1, .int p1), (2, .int p2)] := hl
  refine lv_aload_n hx hb dX4_solve_0 rfl (lv_at hl 0 rfl) ?_
  refine lv_iload_n hx hb dX4_solve_1 rfl (lv_at hl 1 rfl) ?_
  refine fwp_11_3 (v := p1) hx hb hts hinX4 hown hK hP (hD _) hS (hts (.fieldLink RX4 21 "FilmBench$Steady" "frames" "I") (by decide +kernel)) dX4_solve_2 (fun H locs hP hS => ?_)
  refine lv_aload_n hx hb dX4_solve_5 rfl (lv_at hl 0 rfl) ?_
  refine lv_iload_n hx hb dX4_solve_6 rfl (lv_at hl 2 rfl) ?_
  refine fwp_11_4 (v := p2) hx hb hts hinX4 hown hK hP (hD _) hS (hts (.fieldLink RX4 25 "FilmBench$Steady" "stray" "I") (by decide +kernel)) dX4_solve_7 (fun H locs hP hS => ?_)
  refine lv_aload_n hx hb dX4_solve_10 rfl (lv_at hl 0 rfl) ?_
  refine lv_iconst (v := (2 : Int32)) hx hb dX4_solve_11 (by decide) ?_
  refine lv_iload_n hx hb dX4_solve_12 rfl (lv_at hl 2 rfl) ?_
  refine lv_imul hx hb dX4_solve_13 ?_
  refine lv_iconst (v := (1 : Int32)) hx hb dX4_solve_14 (by decide) ?_
  refine lv_iadd hx hb dX4_solve_15 ?_
  refine fwp_11_5 (v := (((2 : Int32) * p2) + (1 : Int32))) hx hb hts hinX4 hown hK hP (hD _) hS (hts (.fieldLink RX4 28 "FilmBench$Steady" "choices" "I") (by decide +kernel)) dX4_solve_16 (fun H locs hP hS => ?_)
  refine lv_aload_n hx hb dX4_solve_19 rfl (lv_at hl 0 rfl) ?_
  refine fwg_11_3 (v := p1) hx hb hts hinX4 hown hK hP (hts (.fieldLink RX4 21 "FilmBench$Steady" "frames" "I") (by decide +kernel)) dX4_solve_20 rfl ?_
  refine lv_iconst (v := (3 : Int32)) hx hb dX4_solve_23 (by decide) ?_
  refine lv_icmp_ge (tgt := 45) hx hb dX4_solve_24 (by decide) (fun hc => ?_) (fun hc => ?_)
  · have h := h.1 hc
    refine lv_aload_n hx hb dX4_solve_45 rfl (lv_at hl 0 rfl) ?_
    refine gcallVv (As := []) (rest := []) ⟨hx, hb, hml, hown, hts⟩ (c_X4_findCosts l D cI cZ adr A hD (si (si (si u 12 p1) 13 p2) 14 (((2 : Int32) * p2) + (1 : Int32))) _ h) (cwV 0 hts gX4_solve_X4_findCosts rfl rfl rfl (by decide +kernel) ⟨Nat.le_of_ble_eq_true rfl, Nat.le_of_ble_eq_true rfl⟩) (va_recv hK hP (ci := 4) (q0 := 11) rfl rfl) hK hP hS rfl hl.1 rfl (Nat.le_of_ble_eq_true rfl) dX4_solve_46 ⟨Nat.le_refl _, Nat.le_refl _⟩ (fun u46 H locs h hP hS => ?_)
    refine lv_aload_n hx hb dX4_solve_49 rfl (lv_at hl 0 rfl) ?_
    refine gcallVv (As := []) (rest := []) ⟨hx, hb, hml, hown, hts⟩ (c_X4_takeChoices l D cI cZ adr A hD u46 _ h) (cwV 0 hts gX4_solve_X4_takeChoices rfl rfl rfl (by decide +kernel) ⟨Nat.le_of_ble_eq_true rfl, Nat.le_of_ble_eq_true rfl⟩) (va_recv hK hP (ci := 4) (q0 := 11) rfl rfl) hK hP hS rfl hl.1 rfl (Nat.le_of_ble_eq_true rfl) dX4_solve_50 ⟨Nat.le_refl _, Nat.le_refl _⟩ (fun u50 H locs h hP hS => ?_)
    exact gvret hx hb hr hlocks hK hP hS h dX4_solve_53
  · have h := h.2 hc
    refine lv_aload_n hx hb dX4_solve_27 rfl (lv_at hl 0 rfl) ?_
    refine fwg_11_0 hx hb hts hinX4 hown hK hP (hts (.fieldLink RX4 11 "FilmBench$Steady" "drifts" "[I") (by decide +kernel)) dX4_solve_28 ?_
    refine lv_iconst (v := (0 : Int32)) hx hb dX4_solve_31 (by decide) ?_
    refine lv_aload_n hx hb dX4_solve_32 rfl (lv_at hl 0 rfl) ?_
    refine fwg_11_1 hx hb hts hinX4 hown hK hP (hts (.fieldLink RX4 15 "FilmBench$Steady" "spots" "[I") (by decide +kernel)) dX4_solve_33 ?_
    refine lv_iconst (v := (0 : Int32)) hx hb dX4_solve_36 (by decide) ?_
    refine lv_aload_n hx hb dX4_solve_37 rfl (lv_at hl 0 rfl) ?_
    refine fwg_11_3 (v := p1) hx hb hts hinX4 hown hK hP (hts (.fieldLink RX4 21 "FilmBench$Steady" "frames" "I") (by decide +kernel)) dX4_solve_38 rfl ?_
    refine gcopy hx hb (hml.trans hl.1.symm) (own := RX4) hown hts (by decide +kernel) hK hP (hD _) hS 12 13 (a0 := adr 12) (a1 := adr 13) (n0 := 10) (n1 := 10) rfl rfl h.1 (Nat.le_of_ble_eq_true rfl) (Nat.le_of_ble_eq_true rfl) dX4_solve_41 (fun H locs hP hS => ?_)
    replace hP : va_P D vwCl (fw adr cI cZ (sA (si (si (si u 12 p1) 13 p2) 14 (((2 : Int32) * p2) + (1 : Int32))) 13 (gcp (u.2 12) (u.2 13) (0 : Int32) (0 : Int32) p1))) H := hP
    have h := h.2
    exact gvret hx hb hr hlocks hK hP hS h dX4_solve_44
set_option maxRecDepth 100000 in
set_option maxHeartbeats 4000000 in
theorem c_X5_findPath (l : Launch) (D : va_G) (cI cZ : ClassId) (adr : Nat → Nat) (A : Nat → Prop) (hD : ∀ u, va_D A (fw adr cI cZ u)) (p1 : Int32) (u : US) (post : US → Prop) (h : wp_X5_findPath p1 u post) : gMv l yX5_findPath wsX5_findPath 5 D cI cZ (fw adr cI cZ) A [.ref (adr 0), .int p1] u post := by
  refine Met.ofW (cc := cX5_findPath) (maxL := 4) (ret := none) (by decide) rfl ?_
  intro p e s m args below meth c s₁ B hml hv
  obtain ⟨rfl, hP, hK⟩ := hv
  have hx := B.exec
  have hb := B.bytes
  have hr := B.returns
  have hts := atoms_spec (ws := wsX5_findPath) B.pre
  have hown : s.vm.findClass RX5 = some m.cls := findClass_of_methodNamed B.named
  have hlocks := B.notSynchronized
  have hinX1 : ∀ w ∈ wsX10, w ∈ wsX5_findPath := by decide +kernel
  have hinX5 : ∀ w ∈ wsX50, w ∈ wsX5_findPath := by decide +kernel
  have hS : va_S A s.heap s.heap [] := va_S.rf
  have L38 : ∀ (k4 : Int32 → Int32 → Int32 → US → Prop) (hk4 : ∀ (x1 : Int32) (x2 : Int32) (x3 : Int32) (u : US) (H : Heap) (locs : List Loc) (ls : Array Slot), lv_has ls 4 [(0, .ref (adr 0)), (1, .int x1), (2, .int x2), (3, .int x3)] → va_P D vwCl (fw adr cI cZ u) H → va_S A s.heap H locs → k4 x1 x2 x3 u → gWv p l e wsX5_findPath 5 s m [.ref (adr 0), .int p1] below meth c D cI cZ (fw adr cI cZ) A post H locs (F0 m 4 ls [])), ∀ (x1 : Int32) (x2 : Int32) (x3 : Int32) (u : US) (H : Heap) (locs : List Loc) (ls : Array Slot), lv_has ls 4 [(0, .ref (adr 0)), (1, .int x1), (2, .int x2), (3, .int x3)] → va_P D vwCl (fw adr cI cZ u) H → va_S A s.heap H locs → wp_X5_findPath_38 k4 post x1 x2 x3 u → gWv p l e wsX5_findPath 5 s m [.ref (adr 0), .int p1] below meth c D cI cZ (fw adr cI cZ) A post H locs (F0 m 38 ls []) := by
    intro k4 hk4 x1 x2 x3 u H locs ls hl hP hS h
    refine lv_aload_n hx hb dX5_findPath_38 rfl (lv_at hl 0 rfl) ?_
    refine fwg_0_4 hx hb hts hinX5 hown hK hP (hts (.fieldLink RX5 48 "FilmBench" "steady" "LFilmBench$Steady;") (by decide +kernel)) dX5_findPath_39 ?_
    refine lv_iload_n hx hb dX5_findPath_42 rfl (lv_at hl 3 rfl) ?_
    refine lv_iload_n hx hb dX5_findPath_43 rfl (lv_at hl 2 rfl) ?_
    refine gcallVv (As := [.int x3, .int x2]) (rest := []) ⟨hx, hb, hml, hown, hts⟩ (c_X4_setDrift l D cI cZ adr A hD x3 x2 u _ h) (cwV 2 hts gX5_findPath_X4_setDrift rfl rfl rfl (by decide +kernel) ⟨Nat.le_of_ble_eq_true rfl, Nat.le_of_ble_eq_true rfl⟩) (va_recv hK hP (ci := 4) (q0 := 11) rfl rfl) hK hP hS rfl hl.1 rfl (Nat.le_of_ble_eq_true rfl) dX5_findPath_44 ⟨Nat.le_refl _, Nat.le_refl _⟩ (fun u44 H locs h hP hS => ?_)
    refine lv_iinc (v := (x3 + 1)) (lv' := [(3, .int (x3 + 1)), (0, .ref (adr 0)), (1, .int x1), (2, .int x2)]) hx hb dX5_findPath_47 hl (k := 3) rfl (congrArg (HAdd.hAdd _) (show Int32.ofInt (1) = (1 : Int32) by decide)) (by decide) rfl (fun ls hl => ?_)
    refine lv_goto (tgt := 4) hx hb dX5_findPath_50 (by decide) ?_
    exact hk4 x1 x2 (x3 + 1) u44 _ _ _ (lv_sub hl [1, 2, 3, 0] rfl) hP hS h
  have L4 : ∀ (n : Nat), ∀ (x1 : Int32) (x2 : Int32) (x3 : Int32) (u : US) (H : Heap) (locs : List Loc) (ls : Array Slot), lv_has ls 4 [(0, .ref (adr 0)), (1, .int x1), (2, .int x2), (3, .int x3)] → va_P D vwCl (fw adr cI cZ u) H → va_S A s.heap H locs → wp_X5_findPath_4  post n x1 x2 x3 u → gWv p l e wsX5_findPath 5 s m [.ref (adr 0), .int p1] below meth c D cI cZ (fw adr cI cZ) A post H locs (F0 m 4 ls []) := by
    intro  n
    induction n with
    | zero => intro x1 x2 x3 u H locs ls hl hP hS h; exact False.elim h
    | succ n ih =>
      intro x1 x2 x3 u H locs ls hl hP hS h
      refine lv_iload_n hx hb dX5_findPath_4 rfl (lv_at hl 3 rfl) ?_
      refine lv_aload_n hx hb dX5_findPath_5 rfl (lv_at hl 0 rfl) ?_
      refine fwg_0_0 hx hb hts hinX5 hown hK hP (hts (.fieldLink RX5 12 "FilmBench" "film" "LFilmBench$Reel;") (by decide +kernel)) dX5_findPath_6 ?_
      refine fwg_1_3 (v := (u.1 4)) hx hb hts hinX1 hown hK hP (hts (.fieldLink RX5 86 "FilmBench$Reel" "frames" "I") (by decide +kernel)) dX5_findPath_9 rfl ?_
      refine lv_icmp_ge (tgt := 53) hx hb dX5_findPath_12 (by decide) (fun hc => ?_) (fun hc => ?_)
      · have h := h.1 hc
        refine lv_aload_n hx hb dX5_findPath_53 rfl (lv_at hl 0 rfl) ?_
        refine fwg_0_4 hx hb hts hinX5 hown hK hP (hts (.fieldLink RX5 48 "FilmBench" "steady" "LFilmBench$Steady;") (by decide +kernel)) dX5_findPath_54 ?_
        refine lv_aload_n hx hb dX5_findPath_57 rfl (lv_at hl 0 rfl) ?_
        refine fwg_0_0 hx hb hts hinX5 hown hK hP (hts (.fieldLink RX5 12 "FilmBench" "film" "LFilmBench$Reel;") (by decide +kernel)) dX5_findPath_58 ?_
        refine fwg_1_3 (v := (u.1 4)) hx hb hts hinX1 hown hK hP (hts (.fieldLink RX5 86 "FilmBench$Reel" "frames" "I") (by decide +kernel)) dX5_findPath_61 rfl ?_
        refine lv_aload_n hx hb dX5_findPath_64 rfl (lv_at hl 0 rfl) ?_
        refine fwg_0_2 hx hb hts hinX5 hown hK hP (hts (.fieldLink RX5 23 "FilmBench" "rules" "[I") (by decide +kernel)) dX5_findPath_65 ?_
        refine lv_iconst (v := (0 : Int32)) hx hb dX5_findPath_68 (by decide) ?_
        refine fwl_9 (v := ((u.2 9) (0 : Int32).toNatClampNeg)) hx hb hK hP (by unfold vp_in; decide) dX5_findPath_69 rfl ?_
        refine gcallVv (As := [.int (u.1 4), .int ((u.2 9) (0 : Int32).toNatClampNeg)]) (rest := []) ⟨hx, hb, hml, hown, hts⟩ (c_X4_solve l D cI cZ adr A hD (u.1 4) ((u.2 9) (0 : Int32).toNatClampNeg) u _ h) (cwV 2 hts gX5_findPath_X4_solve rfl rfl rfl (by decide +kernel) ⟨Nat.le_of_ble_eq_true rfl, Nat.le_of_ble_eq_true rfl⟩) (va_recv hK hP (ci := 4) (q0 := 11) rfl rfl) hK hP hS rfl hl.1 rfl (Nat.le_of_ble_eq_true rfl) dX5_findPath_70 ⟨Nat.le_refl _, Nat.le_refl _⟩ (fun u70 H locs h hP hS => ?_)
        exact gvret hx hb hr hlocks hK hP hS h dX5_findPath_73
      · have h := h.2 hc
        refine lv_iload_n hx hb dX5_findPath_15 rfl (lv_at hl 3 rfl) ?_
        refine lv_if_le (tgt := 38) hx hb dX5_findPath_16 (by decide) (fun hc => ?_) (fun hc => ?_)
        · have h := h.1 hc
          exact L38 _ ih x1 x2 x3 u _ _ _ (lv_sub hl [0, 1, 2, 3] rfl) hP hS h
        · have h := h.2 hc
          refine lv_aload_n hx hb dX5_findPath_19 rfl (lv_at hl 0 rfl) ?_
          refine fwg_0_3 hx hb hts hinX5 hown hK hP (hts (.fieldLink RX5 41 "FilmBench" "shifts" "LFilmBench$Shifts;") (by decide +kernel)) dX5_findPath_20 ?_
          refine lv_iload_n hx hb dX5_findPath_23 rfl (lv_at hl 3 rfl) ?_
          refine gcallVv (As := [.int x3]) (rest := []) ⟨hx, hb, hml, hown, hts⟩ (c_X3_find l D cI cZ adr A hD x3 u _ h) (cwV 1 hts gX5_findPath_X3_find rfl rfl rfl (by decide +kernel) ⟨Nat.le_of_ble_eq_true rfl, Nat.le_of_ble_eq_true rfl⟩) (va_recv hK hP (ci := 3) (q0 := 10) rfl rfl) hK hP hS rfl hl.1 rfl (Nat.le_of_ble_eq_true rfl) dX5_findPath_24 ⟨Nat.le_refl _, Nat.le_refl _⟩ (fun u24 H locs h hP hS => ?_)
          refine lv_iload_n hx hb dX5_findPath_27 rfl (lv_at hl 2 rfl) ?_
          refine lv_aload_n hx hb dX5_findPath_28 rfl (lv_at hl 0 rfl) ?_
          refine fwg_0_3 hx hb hts hinX5 hown hK hP (hts (.fieldLink RX5 41 "FilmBench" "shifts" "LFilmBench$Shifts;") (by decide +kernel)) dX5_findPath_29 ?_
          refine lv_iload_n hx hb dX5_findPath_32 rfl (lv_at hl 1 rfl) ?_
          refine gcallVi (As := [.int x1]) (rest := [.int x2]) ⟨hx, hb, hml, hown, hts⟩ (c_X3_along l D cI cZ adr A hD x1 u24 _ h) (cwV 1 hts gX5_findPath_X3_along rfl rfl rfl (by decide +kernel) ⟨Nat.le_of_ble_eq_true rfl, Nat.le_of_ble_eq_true rfl⟩) (va_recv hK hP (ci := 3) (q0 := 10) rfl rfl) hK hP hS rfl hl.1 rfl (Nat.le_of_ble_eq_true rfl) dX5_findPath_33 ⟨Nat.le_refl _, Nat.le_refl _⟩ (fun r33 u33 H locs h hP hS => ?_)
          refine lv_iadd hx hb dX5_findPath_36 ?_
          refine lv_istore_n (lv' := [(2, .int (x2 + r33)), (0, .ref (adr 0)), (1, .int x1), (3, .int x3)]) hx hb dX5_findPath_37 rfl hl (by decide) rfl (fun ls hl => ?_)
          exact L38 _ ih x1 (x2 + r33) x3 u33 _ _ _ (lv_sub hl [1, 2, 0, 3] rfl) hP hS h
  have hl := lv_entry ([.ref (adr 0), .int p1]) (n := 4) (Nat.le_of_ble_eq_true rfl)
  rw [lg_entry_eq]
  generalize (lg_sl ([.ref (adr 0), .int p1]) ++ List.replicate (4 - (lg_sl ([.ref (adr 0), .int p1])).length) Slot.unset).toArray = ls at hl ⊢
  replace hl : lv_has ls 4 [(0, .ref (adr 0)), (1, .int p1)] := hl
  refine lv_iconst (v := (0 : Int32)) hx hb dX5_findPath_0 (by decide) ?_
  refine lv_istore_n (lv' := [(2, .int (0 : Int32)), (0, .ref (adr 0)), (1, .int p1)]) hx hb dX5_findPath_1 rfl hl (by decide) rfl (fun ls hl => ?_)
  refine lv_iconst (v := (0 : Int32)) hx hb dX5_findPath_2 (by decide) ?_
  refine lv_istore_n (lv' := [(3, .int (0 : Int32)), (2, .int (0 : Int32)), (0, .ref (adr 0)), (1, .int p1)]) hx hb dX5_findPath_3 rfl hl (by decide) rfl (fun ls hl => ?_)
  obtain ⟨n, h⟩ := h
  exact L4  n p1 (0 : Int32) (0 : Int32) u _ _ _ (lv_sub hl [2, 3, 1, 0] rfl) hP hS h
set_option maxRecDepth 100000 in
set_option maxHeartbeats 4000000 in
theorem c_X4_spotAt (l : Launch) (D : va_G) (cI cZ : ClassId) (adr : Nat → Nat) (A : Nat → Prop) (hD : ∀ u, va_D A (fw adr cI cZ u)) (p1 : Int32) (u : US) (post : Int32 → US → Prop) (h : wp_X4_spotAt p1 u post) : gMi l yX4_spotAt wsX4_spotAt 0 D cI cZ (fw adr cI cZ) A [.ref (adr 11), .int p1] u post := by
  refine Met.ofW (cc := cX4_spotAt) (maxL := 2) (ret := (some .int)) (by decide) rfl ?_
  intro p e s m args below meth c s₁ B hml hv
  obtain ⟨rfl, hP, hK⟩ := hv
  have hx := B.exec
  have hb := B.bytes
  have hr := B.returns
  have hts := atoms_spec (ws := wsX4_spotAt) B.pre
  have hown : s.vm.findClass RX4 = some m.cls := findClass_of_methodNamed B.named
  have hlocks := B.notSynchronized
  have hinX4 : ∀ w ∈ wsX40, w ∈ wsX4_spotAt := by decide +kernel
  have hS : va_S A s.heap s.heap [] := va_S.rf
  have hl := lv_entry ([.ref (adr 11), .int p1]) (n := 2) (Nat.le_of_ble_eq_true rfl)
  rw [lg_entry_eq]
  generalize (lg_sl ([.ref (adr 11), .int p1]) ++ List.replicate (2 - (lg_sl ([.ref (adr 11), .int p1])).length) Slot.unset).toArray = ls at hl ⊢
  replace hl : lv_has ls 2 [(0, .ref (adr 11)), (1, .int p1)] := hl
  refine lv_iload_n hx hb dX4_spotAt_0 rfl (lv_at hl 1 rfl) ?_
  refine lv_if_lt (tgt := 21) hx hb dX4_spotAt_1 (by decide) (fun hc => ?_) (fun hc => ?_)
  · have h := h.1 hc
    refine lv_sipush (v := (-1000 : Int32)) hx hb dX4_spotAt_21 (by decide) ?_
    exact giret hx hb hr hlocks hK hP hS h dX4_spotAt_24
  · have h := h.2 hc
    refine lv_iload_n hx hb dX4_spotAt_4 rfl (lv_at hl 1 rfl) ?_
    refine lv_aload_n hx hb dX4_spotAt_5 rfl (lv_at hl 0 rfl) ?_
    refine fwg_11_3 (v := (u.1 12)) hx hb hts hinX4 hown hK hP (hts (.fieldLink RX4 21 "FilmBench$Steady" "frames" "I") (by decide +kernel)) dX4_spotAt_6 rfl ?_
    refine lv_icmp_ge (tgt := 21) hx hb dX4_spotAt_9 (by decide) (fun hc => ?_) (fun hc => ?_)
    · have h := h.1 hc
      refine lv_sipush (v := (-1000 : Int32)) hx hb dX4_spotAt_21 (by decide) ?_
      exact giret hx hb hr hlocks hK hP hS h dX4_spotAt_24
    · have h := h.2 hc
      refine lv_aload_n hx hb dX4_spotAt_12 rfl (lv_at hl 0 rfl) ?_
      refine fwg_11_1 hx hb hts hinX4 hown hK hP (hts (.fieldLink RX4 15 "FilmBench$Steady" "spots" "[I") (by decide +kernel)) dX4_spotAt_13 ?_
      refine lv_iload_n hx hb dX4_spotAt_16 rfl (lv_at hl 1 rfl) ?_
      refine fwl_13 (v := ((u.2 13) p1.toNatClampNeg)) hx hb hK hP h.1 dX4_spotAt_17 rfl ?_
      have h := h.2
      refine lv_goto (tgt := 24) hx hb dX4_spotAt_18 (by decide) ?_
      exact giret hx hb hr hlocks hK hP hS h dX4_spotAt_24
set_option maxRecDepth 100000 in
set_option maxHeartbeats 4000000 in
theorem c_X5_path (l : Launch) (D : va_G) (cI cZ : ClassId) (adr : Nat → Nat) (A : Nat → Prop) (hD : ∀ u, va_D A (fw adr cI cZ u)) (p1 : Int32) (p2 : Int32) (u : US) (post : Int32 → US → Prop) (h : wp_X5_path p1 p2 u post) : gMi l yX5_path wsX5_path 6 D cI cZ (fw adr cI cZ) A [.ref (adr 0), .int p1, .int p2] u post := by
  refine Met.ofW (cc := cX5_path) (maxL := 3) (ret := (some .int)) (by decide) rfl ?_
  intro p e s m args below meth c s₁ B hml hv
  obtain ⟨rfl, hP, hK⟩ := hv
  have hx := B.exec
  have hb := B.bytes
  have hr := B.returns
  have hts := atoms_spec (ws := wsX5_path) B.pre
  have hown : s.vm.findClass RX5 = some m.cls := findClass_of_methodNamed B.named
  have hlocks := B.notSynchronized
  have hinX5 : ∀ w ∈ wsX50, w ∈ wsX5_path := by decide +kernel
  have hS : va_S A s.heap s.heap [] := va_S.rf
  have hl := lv_entry ([.ref (adr 0), .int p1, .int p2]) (n := 3) (Nat.le_of_ble_eq_true rfl)
  rw [lg_entry_eq]
  generalize (lg_sl ([.ref (adr 0), .int p1, .int p2]) ++ List.replicate (3 - (lg_sl ([.ref (adr 0), .int p1, .int p2])).length) Slot.unset).toArray = ls at hl ⊢
  replace hl : lv_has ls 3 [(0, .ref (adr 0)), (1, .int p1), (2, .int p2)] := hl
  refine lv_aload_n hx hb dX5_path_0 rfl (lv_at hl 0 rfl) ?_
  refine fwg_0_0 hx hb hts hinX5 hown hK hP (hts (.fieldLink RX5 12 "FilmBench" "film" "LFilmBench$Reel;") (by decide +kernel)) dX5_path_1 ?_
  refine lv_iload_n hx hb dX5_path_4 rfl (lv_at hl 1 rfl) ?_
  refine gcallVi (As := [.int p1]) (rest := []) ⟨hx, hb, hml, hown, hts⟩ (c_X1_hasFrame l D cI cZ adr A hD p1 u _ h) (cwV 1 hts gX5_path_X1_hasFrame rfl rfl rfl (by decide +kernel) ⟨Nat.le_of_ble_eq_true rfl, Nat.le_of_ble_eq_true rfl⟩) (va_recv hK hP (ci := 1) (q0 := 1) rfl rfl) hK hP hS rfl hl.1 rfl (Nat.le_of_ble_eq_true rfl) dX5_path_5 ⟨Nat.le_refl _, Nat.le_refl _⟩ (fun r5 u5 H locs h hP hS => ?_)
  refine lv_if_eq (tgt := 20) hx hb dX5_path_8 (by decide) (fun hc => ?_) (fun hc => ?_)
  · have h := h.1 hc
    refine lv_sipush (v := (-1000 : Int32)) hx hb dX5_path_20 (by decide) ?_
    exact giret hx hb hr hlocks hK hP hS h dX5_path_23
  · have h := h.2 hc
    refine lv_iload_n hx hb dX5_path_11 rfl (lv_at hl 2 rfl) ?_
    refine lv_iconst (v := (0 : Int32)) hx hb dX5_path_12 (by decide) ?_
    refine lv_iconst (v := (1 : Int32)) hx hb dX5_path_13 (by decide) ?_
    refine gcallSi (As := [.int p2, .int (0 : Int32), .int (1 : Int32)]) (rest := []) ⟨hx, hb, hml, hown, hts⟩ (c_X5_isWithin l D cI cZ adr A hD p2 (0 : Int32) (1 : Int32) u5 _ h) (va_cwS 3 hts gX5_path_X5_isWithin rfl rfl rfl (by decide +kernel) ⟨Nat.le_of_ble_eq_true rfl, Nat.le_of_ble_eq_true rfl⟩) hK hP hS rfl hl.1 rfl (Nat.le_of_ble_eq_true rfl) dX5_path_14 ⟨Nat.le_refl _, Nat.le_refl _⟩ (fun r14 u14 H locs h hP hS => ?_)
    refine lv_if_ne (tgt := 24) hx hb dX5_path_17 (by decide) (fun hc => ?_) (fun hc => ?_)
    · have h := h.2 hc
      refine lv_aload_n hx hb dX5_path_24 rfl (lv_at hl 0 rfl) ?_
      refine lv_iload_n hx hb dX5_path_25 rfl (lv_at hl 2 rfl) ?_
      refine gcallVv (As := [.int p2]) (rest := []) ⟨hx, hb, hml, hown, hts⟩ (c_X5_findPath l D cI cZ adr A hD p2 u14 _ h) (cwV 1 hts gX5_path_X5_findPath rfl rfl rfl (by decide +kernel) ⟨Nat.le_of_ble_eq_true rfl, Nat.le_of_ble_eq_true rfl⟩) (va_recv hK hP (ci := 5) (q0 := 0) rfl rfl) hK hP hS rfl hl.1 rfl (Nat.le_of_ble_eq_true rfl) dX5_path_26 ⟨Nat.le_refl _, Nat.le_refl _⟩ (fun u26 H locs h hP hS => ?_)
      refine lv_aload_n hx hb dX5_path_29 rfl (lv_at hl 0 rfl) ?_
      refine fwg_0_4 hx hb hts hinX5 hown hK hP (hts (.fieldLink RX5 48 "FilmBench" "steady" "LFilmBench$Steady;") (by decide +kernel)) dX5_path_30 ?_
      refine lv_iload_n hx hb dX5_path_33 rfl (lv_at hl 1 rfl) ?_
      refine gcallVi (As := [.int p1]) (rest := []) ⟨hx, hb, hml, hown, hts⟩ (c_X4_spotAt l D cI cZ adr A hD p1 u26 _ h) (cwV 1 hts gX5_path_X4_spotAt rfl rfl rfl (by decide +kernel) ⟨Nat.le_of_ble_eq_true rfl, Nat.le_of_ble_eq_true rfl⟩) (va_recv hK hP (ci := 4) (q0 := 11) rfl rfl) hK hP hS rfl hl.1 rfl (Nat.le_of_ble_eq_true rfl) dX5_path_34 ⟨Nat.le_refl _, Nat.le_refl _⟩ (fun r34 u34 H locs h hP hS => ?_)
      exact giret hx hb hr hlocks hK hP hS h dX5_path_37
    · have h := h.1 hc
      refine lv_sipush (v := (-1000 : Int32)) hx hb dX5_path_20 (by decide) ?_
      exact giret hx hb hr hlocks hK hP hS h dX5_path_23
set_option maxRecDepth 100000 in
set_option maxHeartbeats 4000000 in
theorem c_X4_sumOfBends (l : Launch) (D : va_G) (cI cZ : ClassId) (adr : Nat → Nat) (A : Nat → Prop) (hD : ∀ u, va_D A (fw adr cI cZ u))  (u : US) (post : Int32 → US → Prop) (h : wp_X4_sumOfBends  u post) : gMi l yX4_sumOfBends wsX4_sumOfBends 1 D cI cZ (fw adr cI cZ) A [.ref (adr 11)] u post := by
  refine Met.ofW (cc := cX4_sumOfBends) (maxL := 3) (ret := (some .int)) (by decide) rfl ?_
  intro p e s m args below meth c s₁ B hml hv
  obtain ⟨rfl, hP, hK⟩ := hv
  have hx := B.exec
  have hb := B.bytes
  have hr := B.returns
  have hts := atoms_spec (ws := wsX4_sumOfBends) B.pre
  have hown : s.vm.findClass RX4 = some m.cls := findClass_of_methodNamed B.named
  have hlocks := B.notSynchronized
  have hinX4 : ∀ w ∈ wsX40, w ∈ wsX4_sumOfBends := by decide +kernel
  have hS : va_S A s.heap s.heap [] := va_S.rf
  have L4 : ∀ (n : Nat), ∀ (x1 : Int32) (x2 : Int32) (u : US) (H : Heap) (locs : List Loc) (ls : Array Slot), lv_has ls 3 [(0, .ref (adr 11)), (1, .int x1), (2, .int x2)] → va_P D vwCl (fw adr cI cZ u) H → va_S A s.heap H locs → wp_X4_sumOfBends_4  post n x1 x2 u → gWi p l e wsX4_sumOfBends 1 s m [.ref (adr 11)] below meth c D cI cZ (fw adr cI cZ) A post H locs (F0 m 4 ls []) := by
    intro  n
    induction n with
    | zero => intro x1 x2 u H locs ls hl hP hS h; exact False.elim h
    | succ n ih =>
      intro x1 x2 u H locs ls hl hP hS h
      refine lv_iload_n hx hb dX4_sumOfBends_4 rfl (lv_at hl 2 rfl) ?_
      refine lv_iconst (v := (1 : Int32)) hx hb dX4_sumOfBends_5 (by decide) ?_
      refine lv_iadd hx hb dX4_sumOfBends_6 ?_
      refine lv_aload_n hx hb dX4_sumOfBends_7 rfl (lv_at hl 0 rfl) ?_
      refine fwg_11_3 (v := (u.1 12)) hx hb hts hinX4 hown hK hP (hts (.fieldLink RX4 21 "FilmBench$Steady" "frames" "I") (by decide +kernel)) dX4_sumOfBends_8 rfl ?_
      refine lv_icmp_ge (tgt := 52) hx hb dX4_sumOfBends_11 (by decide) (fun hc => ?_) (fun hc => ?_)
      · have h := h.1 hc
        refine lv_iload_n hx hb dX4_sumOfBends_52 rfl (lv_at hl 1 rfl) ?_
        exact giret hx hb hr hlocks hK hP hS h dX4_sumOfBends_53
      · have h := h.2 hc
        refine lv_iload_n hx hb dX4_sumOfBends_14 rfl (lv_at hl 1 rfl) ?_
        refine lv_aload_n hx hb dX4_sumOfBends_15 rfl (lv_at hl 0 rfl) ?_
        refine fwg_11_1 hx hb hts hinX4 hown hK hP (hts (.fieldLink RX4 15 "FilmBench$Steady" "spots" "[I") (by decide +kernel)) dX4_sumOfBends_16 ?_
        refine lv_iload_n hx hb dX4_sumOfBends_19 rfl (lv_at hl 2 rfl) ?_
        refine lv_iconst (v := (1 : Int32)) hx hb dX4_sumOfBends_20 (by decide) ?_
        refine lv_iadd hx hb dX4_sumOfBends_21 ?_
        refine fwl_13 (v := ((u.2 13) (x2 + (1 : Int32)).toNatClampNeg)) hx hb hK hP h.1 dX4_sumOfBends_22 rfl ?_
        have h := h.2
        refine lv_iconst (v := (2 : Int32)) hx hb dX4_sumOfBends_23 (by decide) ?_
        refine lv_aload_n hx hb dX4_sumOfBends_24 rfl (lv_at hl 0 rfl) ?_
        refine fwg_11_1 hx hb hts hinX4 hown hK hP (hts (.fieldLink RX4 15 "FilmBench$Steady" "spots" "[I") (by decide +kernel)) dX4_sumOfBends_25 ?_
        refine lv_iload_n hx hb dX4_sumOfBends_28 rfl (lv_at hl 2 rfl) ?_
        refine fwl_13 (v := ((u.2 13) x2.toNatClampNeg)) hx hb hK hP h.1 dX4_sumOfBends_29 rfl ?_
        have h := h.2
        refine lv_imul hx hb dX4_sumOfBends_30 ?_
        refine lv_isub hx hb dX4_sumOfBends_31 ?_
        refine lv_aload_n hx hb dX4_sumOfBends_32 rfl (lv_at hl 0 rfl) ?_
        refine fwg_11_1 hx hb hts hinX4 hown hK hP (hts (.fieldLink RX4 15 "FilmBench$Steady" "spots" "[I") (by decide +kernel)) dX4_sumOfBends_33 ?_
        refine lv_iload_n hx hb dX4_sumOfBends_36 rfl (lv_at hl 2 rfl) ?_
        refine lv_iconst (v := (1 : Int32)) hx hb dX4_sumOfBends_37 (by decide) ?_
        refine lv_isub hx hb dX4_sumOfBends_38 ?_
        refine fwl_13 (v := ((u.2 13) (x2 - (1 : Int32)).toNatClampNeg)) hx hb hK hP h.1 dX4_sumOfBends_39 rfl ?_
        have h := h.2
        refine lv_iadd hx hb dX4_sumOfBends_40 ?_
        refine gabs hx hb (hml.trans hl.1.symm) (own := RX4) hown hts (by decide +kernel) (Nat.le_of_ble_eq_true rfl) (Nat.le_of_ble_eq_true rfl) (Nat.zero_le _) (Nat.zero_le _) dX4_sumOfBends_41 ?_
        refine lv_iadd hx hb dX4_sumOfBends_44 ?_
        refine lv_istore_n (lv' := [(1, .int (x1 + (jabs ((((u.2 13) (x2 + (1 : Int32)).toNatClampNeg) - ((2 : Int32) * ((u.2 13) x2.toNatClampNeg))) + ((u.2 13) (x2 - (1 : Int32)).toNatClampNeg))))), (0, .ref (adr 11)), (2, .int x2)]) hx hb dX4_sumOfBends_45 rfl hl (by decide) rfl (fun ls hl => ?_)
        refine lv_iinc (v := (x2 + 1)) (lv' := [(2, .int (x2 + 1)), (1, .int (x1 + (jabs ((((u.2 13) (x2 + (1 : Int32)).toNatClampNeg) - ((2 : Int32) * ((u.2 13) x2.toNatClampNeg))) + ((u.2 13) (x2 - (1 : Int32)).toNatClampNeg))))), (0, .ref (adr 11))]) hx hb dX4_sumOfBends_46 hl (k := 2) rfl (congrArg (HAdd.hAdd _) (show Int32.ofInt (1) = (1 : Int32) by decide)) (by decide) rfl (fun ls hl => ?_)
        refine lv_goto (tgt := 4) hx hb dX4_sumOfBends_49 (by decide) ?_
        exact ih (x1 + (jabs ((((u.2 13) (x2 + (1 : Int32)).toNatClampNeg) - ((2 : Int32) * ((u.2 13) x2.toNatClampNeg))) + ((u.2 13) (x2 - (1 : Int32)).toNatClampNeg)))) (x2 + 1) u _ _ _ (lv_sub hl [2, 1, 0] rfl) hP hS h
  have hl := lv_entry ([.ref (adr 11)]) (n := 3) (Nat.le_of_ble_eq_true rfl)
  rw [lg_entry_eq]
  generalize (lg_sl ([.ref (adr 11)]) ++ List.replicate (3 - (lg_sl ([.ref (adr 11)])).length) Slot.unset).toArray = ls at hl ⊢
  replace hl : lv_has ls 3 [(0, .ref (adr 11))] := hl
  refine lv_iconst (v := (0 : Int32)) hx hb dX4_sumOfBends_0 (by decide) ?_
  refine lv_istore_n (lv' := [(1, .int (0 : Int32)), (0, .ref (adr 11))]) hx hb dX4_sumOfBends_1 rfl hl (by decide) rfl (fun ls hl => ?_)
  refine lv_iconst (v := (1 : Int32)) hx hb dX4_sumOfBends_2 (by decide) ?_
  refine lv_istore_n (lv' := [(2, .int (1 : Int32)), (1, .int (0 : Int32)), (0, .ref (adr 11))]) hx hb dX4_sumOfBends_3 rfl hl (by decide) rfl (fun ls hl => ?_)
  obtain ⟨n, h⟩ := h
  exact L4  n (0 : Int32) (1 : Int32) u _ _ _ (lv_sub hl [2, 1, 0] rfl) hP hS h
set_option maxRecDepth 100000 in
set_option maxHeartbeats 4000000 in
theorem c_X4_sumOfStrays (l : Launch) (D : va_G) (cI cZ : ClassId) (adr : Nat → Nat) (A : Nat → Prop) (hD : ∀ u, va_D A (fw adr cI cZ u))  (u : US) (post : Int32 → US → Prop) (h : wp_X4_sumOfStrays  u post) : gMi l yX4_sumOfStrays wsX4_sumOfStrays 1 D cI cZ (fw adr cI cZ) A [.ref (adr 11)] u post := by
  refine Met.ofW (cc := cX4_sumOfStrays) (maxL := 3) (ret := (some .int)) (by decide) rfl ?_
  intro p e s m args below meth c s₁ B hml hv
  obtain ⟨rfl, hP, hK⟩ := hv
  have hx := B.exec
  have hb := B.bytes
  have hr := B.returns
  have hts := atoms_spec (ws := wsX4_sumOfStrays) B.pre
  have hown : s.vm.findClass RX4 = some m.cls := findClass_of_methodNamed B.named
  have hlocks := B.notSynchronized
  have hinX4 : ∀ w ∈ wsX40, w ∈ wsX4_sumOfStrays := by decide +kernel
  have hS : va_S A s.heap s.heap [] := va_S.rf
  have L4 : ∀ (n : Nat), ∀ (x1 : Int32) (x2 : Int32) (u : US) (H : Heap) (locs : List Loc) (ls : Array Slot), lv_has ls 3 [(0, .ref (adr 11)), (1, .int x1), (2, .int x2)] → va_P D vwCl (fw adr cI cZ u) H → va_S A s.heap H locs → wp_X4_sumOfStrays_4  post n x1 x2 u → gWi p l e wsX4_sumOfStrays 1 s m [.ref (adr 11)] below meth c D cI cZ (fw adr cI cZ) A post H locs (F0 m 4 ls []) := by
    intro  n
    induction n with
    | zero => intro x1 x2 u H locs ls hl hP hS h; exact False.elim h
    | succ n ih =>
      intro x1 x2 u H locs ls hl hP hS h
      refine lv_iload_n hx hb dX4_sumOfStrays_4 rfl (lv_at hl 2 rfl) ?_
      refine lv_aload_n hx hb dX4_sumOfStrays_5 rfl (lv_at hl 0 rfl) ?_
      refine fwg_11_3 (v := (u.1 12)) hx hb hts hinX4 hown hK hP (hts (.fieldLink RX4 21 "FilmBench$Steady" "frames" "I") (by decide +kernel)) dX4_sumOfStrays_6 rfl ?_
      refine lv_icmp_ge (tgt := 37) hx hb dX4_sumOfStrays_9 (by decide) (fun hc => ?_) (fun hc => ?_)
      · have h := h.1 hc
        refine lv_iload_n hx hb dX4_sumOfStrays_37 rfl (lv_at hl 1 rfl) ?_
        exact giret hx hb hr hlocks hK hP hS h dX4_sumOfStrays_38
      · have h := h.2 hc
        refine lv_iload_n hx hb dX4_sumOfStrays_12 rfl (lv_at hl 1 rfl) ?_
        refine lv_aload_n hx hb dX4_sumOfStrays_13 rfl (lv_at hl 0 rfl) ?_
        refine fwg_11_1 hx hb hts hinX4 hown hK hP (hts (.fieldLink RX4 15 "FilmBench$Steady" "spots" "[I") (by decide +kernel)) dX4_sumOfStrays_14 ?_
        refine lv_iload_n hx hb dX4_sumOfStrays_17 rfl (lv_at hl 2 rfl) ?_
        refine fwl_13 (v := ((u.2 13) x2.toNatClampNeg)) hx hb hK hP h.1 dX4_sumOfStrays_18 rfl ?_
        have h := h.2
        refine lv_aload_n hx hb dX4_sumOfStrays_19 rfl (lv_at hl 0 rfl) ?_
        refine fwg_11_0 hx hb hts hinX4 hown hK hP (hts (.fieldLink RX4 11 "FilmBench$Steady" "drifts" "[I") (by decide +kernel)) dX4_sumOfStrays_20 ?_
        refine lv_iload_n hx hb dX4_sumOfStrays_23 rfl (lv_at hl 2 rfl) ?_
        refine fwl_12 (v := ((u.2 12) x2.toNatClampNeg)) hx hb hK hP h.1 dX4_sumOfStrays_24 rfl ?_
        have h := h.2
        refine lv_isub hx hb dX4_sumOfStrays_25 ?_
        refine gabs hx hb (hml.trans hl.1.symm) (own := RX4) hown hts (by decide +kernel) (Nat.le_of_ble_eq_true rfl) (Nat.le_of_ble_eq_true rfl) (Nat.zero_le _) (Nat.zero_le _) dX4_sumOfStrays_26 ?_
        refine lv_iadd hx hb dX4_sumOfStrays_29 ?_
        refine lv_istore_n (lv' := [(1, .int (x1 + (jabs (((u.2 13) x2.toNatClampNeg) - ((u.2 12) x2.toNatClampNeg))))), (0, .ref (adr 11)), (2, .int x2)]) hx hb dX4_sumOfStrays_30 rfl hl (by decide) rfl (fun ls hl => ?_)
        refine lv_iinc (v := (x2 + 1)) (lv' := [(2, .int (x2 + 1)), (1, .int (x1 + (jabs (((u.2 13) x2.toNatClampNeg) - ((u.2 12) x2.toNatClampNeg))))), (0, .ref (adr 11))]) hx hb dX4_sumOfStrays_31 hl (k := 2) rfl (congrArg (HAdd.hAdd _) (show Int32.ofInt (1) = (1 : Int32) by decide)) (by decide) rfl (fun ls hl => ?_)
        refine lv_goto (tgt := 4) hx hb dX4_sumOfStrays_34 (by decide) ?_
        exact ih (x1 + (jabs (((u.2 13) x2.toNatClampNeg) - ((u.2 12) x2.toNatClampNeg)))) (x2 + 1) u _ _ _ (lv_sub hl [2, 1, 0] rfl) hP hS h
  have hl := lv_entry ([.ref (adr 11)]) (n := 3) (Nat.le_of_ble_eq_true rfl)
  rw [lg_entry_eq]
  generalize (lg_sl ([.ref (adr 11)]) ++ List.replicate (3 - (lg_sl ([.ref (adr 11)])).length) Slot.unset).toArray = ls at hl ⊢
  replace hl : lv_has ls 3 [(0, .ref (adr 11))] := hl
  refine lv_iconst (v := (0 : Int32)) hx hb dX4_sumOfStrays_0 (by decide) ?_
  refine lv_istore_n (lv' := [(1, .int (0 : Int32)), (0, .ref (adr 11))]) hx hb dX4_sumOfStrays_1 rfl hl (by decide) rfl (fun ls hl => ?_)
  refine lv_iconst (v := (0 : Int32)) hx hb dX4_sumOfStrays_2 (by decide) ?_
  refine lv_istore_n (lv' := [(2, .int (0 : Int32)), (1, .int (0 : Int32)), (0, .ref (adr 11))]) hx hb dX4_sumOfStrays_3 rfl hl (by decide) rfl (fun ls hl => ?_)
  obtain ⟨n, h⟩ := h
  exact L4  n (0 : Int32) (0 : Int32) u _ _ _ (lv_sub hl [2, 1, 0] rfl) hP hS h
