set_option maxRecDepth 100000 in
set_option maxHeartbeats 4000000 in
theorem c_X6_drift (l : Launch) (D : va_G) (cI cZ : ClassId) (adr : Nat → Nat) (A : Nat → Prop) (hD : ∀ u, va_D A (mw adr cI cZ u)) (p1 : Int32) (p2 : Int32) (u : US) (post : Int32 → US → Prop) (h : wp_X6_drift p1 p2 u post) : gMi l yX6_drift wsX6_drift 5 D cI cZ (mw adr cI cZ) A [.ref (adr 0), .int p1, .int p2] u post := by
  refine Met.ofW (cc := cX6_drift) (maxL := 3) (ret := (some .int)) (by decide) rfl ?_
  intro p e s m args below meth c s₁ B hml hv
  obtain ⟨rfl, hP, hK⟩ := hv
  have hx := B.exec
  have hb := B.bytes
  have hr := B.returns
  have hts := atoms_spec (ws := wsX6_drift) B.pre
  have hown : s.vm.findClass RX6 = some m.cls := findClass_of_methodNamed B.named
  have hlocks := B.notSynchronized
  have hS : va_S A s.heap s.heap [] := va_S.rf
  have hl := lv_entry ([.ref (adr 0), .int p1, .int p2]) (n := 3) (Nat.le_of_ble_eq_true rfl)
  rw [lg_entry_eq]
  generalize (lg_sl ([.ref (adr 0), .int p1, .int p2]) ++ List.replicate (3 - (lg_sl ([.ref (adr 0), .int p1, .int p2])).length) Slot.unset).toArray = ls at hl ⊢
  replace hl : lv_has ls 3 [(0, .ref (adr 0)), (1, .int p1), (2, .int p2)] := hl
  refine lv_aload_n hx hb dX6_drift_0 rfl (lv_at hl 0 rfl) ?_
  refine lv_iload_n hx hb dX6_drift_1 rfl (lv_at hl 1 rfl) ?_
  refine gcallVi (As := [.int p1]) (rest := []) ⟨hx, hb, hml, hown, hts⟩ (c_X6_isFrame l D cI cZ adr A hD p1 u _ h) (cwV 1 hts gX6_drift_X6_isFrame rfl rfl rfl (by decide +kernel) ⟨Nat.le_of_ble_eq_true rfl, Nat.le_of_ble_eq_true rfl⟩) (va_recv hK hP (ci := 6) (q0 := 0) rfl rfl) hK hP hS rfl hl.1 rfl (Nat.le_of_ble_eq_true rfl) dX6_drift_2 ⟨Nat.le_refl _, Nat.le_refl _⟩ (fun r2 u2 H locs h hP hS => ?_)
  refine lv_if_eq (tgt := 26) hx hb dX6_drift_5 (by decide) (fun hc => ?_) (fun hc => ?_)
  · have h := h.1 hc
    refine lv_sipush (v := (-1000 : Int32)) hx hb dX6_drift_26 (by decide) ?_
    exact giret hx hb hr hlocks hK hP hS h dX6_drift_29
  · have h := h.2 hc
    refine lv_iload_n hx hb dX6_drift_8 rfl (lv_at hl 2 rfl) ?_
    refine lv_iconst (v := (0 : Int32)) hx hb dX6_drift_9 (by decide) ?_
    refine lv_iconst (v := (1 : Int32)) hx hb dX6_drift_10 (by decide) ?_
    refine gcallSi (As := [.int p2, .int (0 : Int32), .int (1 : Int32)]) (rest := []) ⟨hx, hb, hml, hown, hts⟩ (c_X6_in l D cI cZ adr A hD p2 (0 : Int32) (1 : Int32) u2 _ h) (va_cwS 3 hts gX6_drift_X6_in rfl rfl rfl (by decide +kernel) ⟨Nat.le_of_ble_eq_true rfl, Nat.le_of_ble_eq_true rfl⟩) hK hP hS rfl hl.1 rfl (Nat.le_of_ble_eq_true rfl) dX6_drift_11 ⟨Nat.le_refl _, Nat.le_refl _⟩ (fun r11 u11 H locs h hP hS => ?_)
    refine lv_if_eq (tgt := 26) hx hb dX6_drift_14 (by decide) (fun hc => ?_) (fun hc => ?_)
    · have h := h.1 hc
      refine lv_sipush (v := (-1000 : Int32)) hx hb dX6_drift_26 (by decide) ?_
      exact giret hx hb hr hlocks hK hP hS h dX6_drift_29
    · have h := h.2 hc
      refine lv_aload_n hx hb dX6_drift_17 rfl (lv_at hl 0 rfl) ?_
      refine lv_iload_n hx hb dX6_drift_18 rfl (lv_at hl 1 rfl) ?_
      refine lv_iload_n hx hb dX6_drift_19 rfl (lv_at hl 2 rfl) ?_
      refine gcallVi (As := [.int p1, .int p2]) (rest := []) ⟨hx, hb, hml, hown, hts⟩ (c_X6_driftOf l D cI cZ adr A hD p1 p2 u11 _ h) (cwV 2 hts gX6_drift_X6_driftOf rfl rfl rfl (by decide +kernel) ⟨Nat.le_of_ble_eq_true rfl, Nat.le_of_ble_eq_true rfl⟩) (va_recv hK hP (ci := 6) (q0 := 0) rfl rfl) hK hP hS rfl hl.1 rfl (Nat.le_of_ble_eq_true rfl) dX6_drift_20 ⟨Nat.le_refl _, Nat.le_refl _⟩ (fun r20 u20 H locs h hP hS => ?_)
      refine lv_goto (tgt := 29) hx hb dX6_drift_23 (by decide) ?_
      exact giret hx hb hr hlocks hK hP hS h dX6_drift_29
set_option maxRecDepth 100000 in
set_option maxHeartbeats 4000000 in
theorem c_X6_placeAt (l : Launch) (D : va_G) (cI cZ : ClassId) (adr : Nat → Nat) (A : Nat → Prop) (hD : ∀ u, va_D A (mw adr cI cZ u)) (p1 : Int32) (p2 : Int32) (u : US) (post : Int32 → US → Prop) (h : wp_X6_placeAt p1 p2 u post) : gMi l yX6_placeAt wsX6_placeAt 0 D cI cZ (mw adr cI cZ) A [.ref (adr 0), .int p1, .int p2] u post := by
  refine Met.ofW (cc := cX6_placeAt) (maxL := 3) (ret := (some .int)) (by decide) rfl ?_
  intro p e s m args below meth c s₁ B hml hv
  obtain ⟨rfl, hP, hK⟩ := hv
  have hx := B.exec
  have hb := B.bytes
  have hr := B.returns
  have hts := atoms_spec (ws := wsX6_placeAt) B.pre
  have hown : s.vm.findClass RX6 = some m.cls := findClass_of_methodNamed B.named
  have hlocks := B.notSynchronized
  have hinX6 : ∀ w ∈ wsX60, w ∈ wsX6_placeAt := by decide +kernel
  have hS : va_S A s.heap s.heap [] := va_S.rf
  have hl := lv_entry ([.ref (adr 0), .int p1, .int p2]) (n := 3) (Nat.le_of_ble_eq_true rfl)
  rw [lg_entry_eq]
  generalize (lg_sl ([.ref (adr 0), .int p1, .int p2]) ++ List.replicate (3 - (lg_sl ([.ref (adr 0), .int p1, .int p2])).length) Slot.unset).toArray = ls at hl ⊢
  replace hl : lv_has ls 3 [(0, .ref (adr 0)), (1, .int p1), (2, .int p2)] := hl
  refine lv_aload_n hx hb dX6_placeAt_0 rfl (lv_at hl 0 rfl) ?_
  refine mwg_0_26 hx hb hts hinX6 hown hK hP (hts (.fieldLink RX6 57 "FilmBenchModel" "drifts" "[I") (by decide +kernel)) dX6_placeAt_1 ?_
  refine lv_iload_n hx hb dX6_placeAt_4 rfl (lv_at hl 1 rfl) ?_
  refine mwl_26 (v := ((u.2 26) p1.toNatClampNeg)) hx hb hK hP h.1 dX6_placeAt_5 rfl ?_
  have h := h.2
  refine lv_iload_n hx hb dX6_placeAt_6 rfl (lv_at hl 2 rfl) ?_
  refine lv_iadd hx hb dX6_placeAt_7 ?_
  refine lv_aload_n hx hb dX6_placeAt_8 rfl (lv_at hl 0 rfl) ?_
  refine mwg_0_10 hx hb hts hinX6 hown hK hP (hts (.fieldLink RX6 36 "FilmBenchModel" "rules" "[I") (by decide +kernel)) dX6_placeAt_9 ?_
  refine lv_iconst (v := (0 : Int32)) hx hb dX6_placeAt_12 (by decide) ?_
  refine mwl_10 (v := ((u.2 10) (0 : Int32).toNatClampNeg)) hx hb hK hP (by unfold vp_in; decide) dX6_placeAt_13 rfl ?_
  refine lv_isub hx hb dX6_placeAt_14 ?_
  exact giret hx hb hr hlocks hK hP hS h dX6_placeAt_15
set_option maxRecDepth 100000 in
set_option maxHeartbeats 4000000 in
theorem c_X6_strayAt (l : Launch) (D : va_G) (cI cZ : ClassId) (adr : Nat → Nat) (A : Nat → Prop) (hD : ∀ u, va_D A (mw adr cI cZ u)) (p1 : Int32) (u : US) (post : Int32 → US → Prop) (h : wp_X6_strayAt p1 u post) : gMi l yX6_strayAt wsX6_strayAt 1 D cI cZ (mw adr cI cZ) A [.ref (adr 0), .int p1] u post := by
  refine Met.ofW (cc := cX6_strayAt) (maxL := 2) (ret := (some .int)) (by decide) rfl ?_
  intro p e s m args below meth c s₁ B hml hv
  obtain ⟨rfl, hP, hK⟩ := hv
  have hx := B.exec
  have hb := B.bytes
  have hr := B.returns
  have hts := atoms_spec (ws := wsX6_strayAt) B.pre
  have hown : s.vm.findClass RX6 = some m.cls := findClass_of_methodNamed B.named
  have hlocks := B.notSynchronized
  have hinX6 : ∀ w ∈ wsX60, w ∈ wsX6_strayAt := by decide +kernel
  have hS : va_S A s.heap s.heap [] := va_S.rf
  have hl := lv_entry ([.ref (adr 0), .int p1]) (n := 2) (Nat.le_of_ble_eq_true rfl)
  rw [lg_entry_eq]
  generalize (lg_sl ([.ref (adr 0), .int p1]) ++ List.replicate (2 - (lg_sl ([.ref (adr 0), .int p1])).length) Slot.unset).toArray = ls at hl ⊢
  replace hl : lv_has ls 2 [(0, .ref (adr 0)), (1, .int p1)] := hl
  refine lv_iload_n hx hb dX6_strayAt_0 rfl (lv_at hl 1 rfl) ?_
  refine lv_aload_n hx hb dX6_strayAt_1 rfl (lv_at hl 0 rfl) ?_
  refine mwg_0_10 hx hb hts hinX6 hown hK hP (hts (.fieldLink RX6 36 "FilmBenchModel" "rules" "[I") (by decide +kernel)) dX6_strayAt_2 ?_
  refine lv_iconst (v := (0 : Int32)) hx hb dX6_strayAt_5 (by decide) ?_
  refine mwl_10 (v := ((u.2 10) (0 : Int32).toNatClampNeg)) hx hb hK hP (by unfold vp_in; decide) dX6_strayAt_6 rfl ?_
  refine lv_isub hx hb dX6_strayAt_7 ?_
  refine gcallSi (As := [.int (p1 - ((u.2 10) (0 : Int32).toNatClampNeg))]) (rest := []) ⟨hx, hb, hml, hown, hts⟩ (c_X6_size l D cI cZ adr A hD (p1 - ((u.2 10) (0 : Int32).toNatClampNeg)) u _ h) (va_cwS 1 hts gX6_strayAt_X6_size rfl rfl rfl (by decide +kernel) ⟨Nat.le_of_ble_eq_true rfl, Nat.le_of_ble_eq_true rfl⟩) hK hP hS rfl hl.1 rfl (Nat.le_of_ble_eq_true rfl) dX6_strayAt_8 ⟨Nat.le_refl _, Nat.le_refl _⟩ (fun r8 u8 H locs h hP hS => ?_)
  exact giret hx hb hr hlocks hK hP hS h dX6_strayAt_11
set_option maxRecDepth 100000 in
set_option maxHeartbeats 4000000 in
theorem c_X6_by (l : Launch) (D : va_G) (cI cZ : ClassId) (adr : Nat → Nat) (A : Nat → Prop) (hD : ∀ u, va_D A (mw adr cI cZ u)) (p1 : Int32) (p2 : Int32) (p3 : Int32) (p4 : Int32) (u : US) (post : Int32 → US → Prop) (h : wp_X6_by p1 p2 p3 p4 u post) : gMi l yX6_by wsX6_by 2 D cI cZ (mw adr cI cZ) A [.ref (adr 0), .int p1, .int p2, .int p3, .int p4] u post := by
  refine Met.ofW (cc := cX6_by) (maxL := 6) (ret := (some .int)) (by decide) rfl ?_
  intro p e s m args below meth c s₁ B hml hv
  obtain ⟨rfl, hP, hK⟩ := hv
  have hx := B.exec
  have hb := B.bytes
  have hr := B.returns
  have hts := atoms_spec (ws := wsX6_by) B.pre
  have hown : s.vm.findClass RX6 = some m.cls := findClass_of_methodNamed B.named
  have hlocks := B.notSynchronized
  have hinX6 : ∀ w ∈ wsX60, w ∈ wsX6_by := by decide +kernel
  have hS : va_S A s.heap s.heap [] := va_S.rf
  have hl := lv_entry ([.ref (adr 0), .int p1, .int p2, .int p3, .int p4]) (n := 6) (Nat.le_of_ble_eq_true rfl)
  rw [lg_entry_eq]
  generalize (lg_sl ([.ref (adr 0), .int p1, .int p2, .int p3, .int p4]) ++ List.replicate (6 - (lg_sl ([.ref (adr 0), .int p1, .int p2, .int p3, .int p4])).length) Slot.unset).toArray = ls at hl ⊢
  replace hl : lv_has ls 6 [(0, .ref (adr 0)), (1, .int p1), (2, .int p2), (3, .int p3), (4, .int p4)] := hl
  refine lv_aload_n hx hb dX6_by_0 rfl (lv_at hl 0 rfl) ?_
  refine lv_iload_n hx hb dX6_by_1 rfl (lv_at hl 1 rfl) ?_
  refine lv_iconst (v := (1 : Int32)) hx hb dX6_by_2 (by decide) ?_
  refine lv_iadd hx hb dX6_by_3 ?_
  refine lv_iload hx hb dX6_by_4 (lv_at hl 4 rfl) ?_
  refine gcallVi (As := [.int (p1 + (1 : Int32)), .int p4]) (rest := []) ⟨hx, hb, hml, hown, hts⟩ (c_X6_placeAt l D cI cZ adr A hD (p1 + (1 : Int32)) p4 u _ h) (cwV 2 hts gX6_by_X6_placeAt rfl rfl rfl (by decide +kernel) ⟨Nat.le_of_ble_eq_true rfl, Nat.le_of_ble_eq_true rfl⟩) (va_recv hK hP (ci := 6) (q0 := 0) rfl rfl) hK hP hS rfl hl.1 rfl (Nat.le_of_ble_eq_true rfl) dX6_by_6 ⟨Nat.le_refl _, Nat.le_refl _⟩ (fun r6 u6 H locs h hP hS => ?_)
  refine lv_iconst (v := (2 : Int32)) hx hb dX6_by_9 (by decide) ?_
  refine lv_aload_n hx hb dX6_by_10 rfl (lv_at hl 0 rfl) ?_
  refine lv_iload_n hx hb dX6_by_11 rfl (lv_at hl 1 rfl) ?_
  refine lv_iload_n hx hb dX6_by_12 rfl (lv_at hl 3 rfl) ?_
  refine gcallVi (As := [.int p1, .int p3]) (rest := [.int (2 : Int32), .int r6]) ⟨hx, hb, hml, hown, hts⟩ (c_X6_placeAt l D cI cZ adr A hD p1 p3 u6 _ h) (cwV 2 hts gX6_by_X6_placeAt rfl rfl rfl (by decide +kernel) ⟨Nat.le_of_ble_eq_true rfl, Nat.le_of_ble_eq_true rfl⟩) (va_recv hK hP (ci := 6) (q0 := 0) rfl rfl) hK hP hS rfl hl.1 rfl (Nat.le_of_ble_eq_true rfl) dX6_by_13 ⟨Nat.le_refl _, Nat.le_refl _⟩ (fun r13 u13 H locs h hP hS => ?_)
  refine lv_imul hx hb dX6_by_16 ?_
  refine lv_isub hx hb dX6_by_17 ?_
  refine lv_aload_n hx hb dX6_by_18 rfl (lv_at hl 0 rfl) ?_
  refine lv_iload_n hx hb dX6_by_19 rfl (lv_at hl 1 rfl) ?_
  refine lv_iconst (v := (1 : Int32)) hx hb dX6_by_20 (by decide) ?_
  refine lv_isub hx hb dX6_by_21 ?_
  refine lv_iload_n hx hb dX6_by_22 rfl (lv_at hl 2 rfl) ?_
  refine gcallVi (As := [.int (p1 - (1 : Int32)), .int p2]) (rest := [.int (r6 - ((2 : Int32) * r13))]) ⟨hx, hb, hml, hown, hts⟩ (c_X6_placeAt l D cI cZ adr A hD (p1 - (1 : Int32)) p2 u13 _ h) (cwV 2 hts gX6_by_X6_placeAt rfl rfl rfl (by decide +kernel) ⟨Nat.le_of_ble_eq_true rfl, Nat.le_of_ble_eq_true rfl⟩) (va_recv hK hP (ci := 6) (q0 := 0) rfl rfl) hK hP hS rfl hl.1 rfl (Nat.le_of_ble_eq_true rfl) dX6_by_23 ⟨Nat.le_refl _, Nat.le_refl _⟩ (fun r23 u23 H locs h hP hS => ?_)
  refine lv_iadd hx hb dX6_by_26 ?_
  refine gcallSi (As := [.int ((r6 - ((2 : Int32) * r13)) + r23)]) (rest := []) ⟨hx, hb, hml, hown, hts⟩ (c_X6_size l D cI cZ adr A hD ((r6 - ((2 : Int32) * r13)) + r23) u23 _ h) (va_cwS 1 hts gX6_by_X6_size rfl rfl rfl (by decide +kernel) ⟨Nat.le_of_ble_eq_true rfl, Nat.le_of_ble_eq_true rfl⟩) hK hP hS rfl hl.1 rfl (Nat.le_of_ble_eq_true rfl) dX6_by_27 ⟨Nat.le_refl _, Nat.le_refl _⟩ (fun r27 u27 H locs h hP hS => ?_)
  refine lv_istore (lv' := [(5, .int r27), (0, .ref (adr 0)), (1, .int p1), (2, .int p2), (3, .int p3), (4, .int p4)]) hx hb dX6_by_30 hl (by decide) rfl (fun ls hl => ?_)
  refine lv_bipush (v := (100 : Int32)) hx hb dX6_by_32 (by decide) ?_
  refine lv_iload hx hb dX6_by_34 (lv_at hl 0 rfl) ?_
  refine lv_imul hx hb dX6_by_36 ?_
  refine lv_aload_n hx hb dX6_by_37 rfl (lv_at hl 1 rfl) ?_
  refine lv_iload hx hb dX6_by_38 (lv_at hl 5 rfl) ?_
  refine gcallVi (As := [.int p4]) (rest := [.int ((100 : Int32) * r27)]) ⟨hx, hb, hml, hown, hts⟩ (c_X6_strayAt l D cI cZ adr A hD p4 u27 _ h) (cwV 1 hts gX6_by_X6_strayAt rfl rfl rfl (by decide +kernel) ⟨Nat.le_of_ble_eq_true rfl, Nat.le_of_ble_eq_true rfl⟩) (va_recv hK hP (ci := 6) (q0 := 0) rfl rfl) hK hP hS rfl hl.1 rfl (Nat.le_of_ble_eq_true rfl) dX6_by_40 ⟨Nat.le_refl _, Nat.le_refl _⟩ (fun r40 u40 H locs h hP hS => ?_)
  refine lv_iadd hx hb dX6_by_43 ?_
  refine lv_aload_n hx hb dX6_by_44 rfl (lv_at hl 1 rfl) ?_
  refine mwg_0_28 hx hb hts hinX6 hown hK hP (hts (.fieldLink RX6 63 "FilmBenchModel" "rest" "[I") (by decide +kernel)) dX6_by_45 ?_
  refine lv_bipush (v := (49 : Int32)) hx hb dX6_by_48 (by decide) ?_
  refine lv_iload_n hx hb dX6_by_50 rfl (lv_at hl 2 rfl) ?_
  refine lv_iconst (v := (1 : Int32)) hx hb dX6_by_51 (by decide) ?_
  refine lv_iadd hx hb dX6_by_52 ?_
  refine lv_imul hx hb dX6_by_53 ?_
  refine lv_bipush (v := (7 : Int32)) hx hb dX6_by_54 (by decide) ?_
  refine lv_iload_n hx hb dX6_by_56 rfl (lv_at hl 4 rfl) ?_
  refine lv_imul hx hb dX6_by_57 ?_
  refine lv_iadd hx hb dX6_by_58 ?_
  refine lv_iload hx hb dX6_by_59 (lv_at hl 5 rfl) ?_
  refine lv_iadd hx hb dX6_by_61 ?_
  refine mwl_28 (v := ((u40.2 28) ((((49 : Int32) * (p1 + (1 : Int32))) + ((7 : Int32) * p3)) + p4).toNatClampNeg)) hx hb hK hP h.1 dX6_by_62 rfl ?_
  have h := h.2
  refine lv_iadd hx hb dX6_by_63 ?_
  exact giret hx hb hr hlocks hK hP hS h dX6_by_64
set_option maxRecDepth 100000 in
set_option maxHeartbeats 4000000 in
theorem c_X6_findRest (l : Launch) (D : va_G) (cI cZ : ClassId) (adr : Nat → Nat) (A : Nat → Prop) (hD : ∀ u, va_D A (mw adr cI cZ u))  (u : US) (post : US → Prop) (h : wp_X6_findRest  u post) : gMv l yX6_findRest wsX6_findRest 3 D cI cZ (mw adr cI cZ) A [.ref (adr 0)] u post := by
  refine Met.ofW (cc := cX6_findRest) (maxL := 7) (ret := none) (by decide) rfl ?_
  intro p e s m args below meth c s₁ B hml hv
  obtain ⟨rfl, hP, hK⟩ := hv
  have hx := B.exec
  have hb := B.bytes
  have hr := B.returns
  have hts := atoms_spec (ws := wsX6_findRest) B.pre
  have hown : s.vm.findClass RX6 = some m.cls := findClass_of_methodNamed B.named
  have hlocks := B.notSynchronized
  have hinX6 : ∀ w ∈ wsX60, w ∈ wsX6_findRest := by decide +kernel
  have hS : va_S A s.heap s.heap [] := va_S.rf
  have L121 : ∀ (k33 : Int32 → Int32 → Int32 → Int32 → US → Prop) (hk33 : ∀ (x1 : Int32) (x2 : Int32) (x3 : Int32) (x4 : Int32) (u : US) (H : Heap) (locs : List Loc) (ls : Array Slot), lv_has ls 7 [(0, .ref (adr 0)), (1, .int x1), (2, .int x2), (3, .int x3), (4, .int x4)] → va_P D vwCl (mw adr cI cZ u) H → va_S A s.heap H locs → k33 x1 x2 x3 x4 u → gWv p l e wsX6_findRest 3 s m [.ref (adr 0)] below meth c D cI cZ (mw adr cI cZ) A post H locs (F0 m 33 ls [])), ∀ (x1 : Int32) (x2 : Int32) (x3 : Int32) (x4 : Int32) (x5 : Int32) (u : US) (H : Heap) (locs : List Loc) (ls : Array Slot), lv_has ls 7 [(0, .ref (adr 0)), (1, .int x1), (2, .int x2), (3, .int x3), (4, .int x4), (5, .int x5)] → va_P D vwCl (mw adr cI cZ u) H → va_S A s.heap H locs → wp_X6_findRest_121 k33 post x1 x2 x3 x4 x5 u → gWv p l e wsX6_findRest 3 s m [.ref (adr 0)] below meth c D cI cZ (mw adr cI cZ) A post H locs (F0 m 121 ls []) := by
    intro k33 hk33 x1 x2 x3 x4 x5 u H locs ls hl hP hS h
    refine lv_aload_n hx hb dX6_findRest_121 rfl (lv_at hl 0 rfl) ?_
    refine mwg_0_28 hx hb hts hinX6 hown hK hP (hts (.fieldLink RX6 63 "FilmBenchModel" "rest" "[I") (by decide +kernel)) dX6_findRest_122 ?_
    refine lv_bipush (v := (49 : Int32)) hx hb dX6_findRest_125 (by decide) ?_
    refine lv_iload_n hx hb dX6_findRest_127 rfl (lv_at hl 2 rfl) ?_
    refine lv_imul hx hb dX6_findRest_128 ?_
    refine lv_bipush (v := (7 : Int32)) hx hb dX6_findRest_129 (by decide) ?_
    refine lv_iload_n hx hb dX6_findRest_131 rfl (lv_at hl 3 rfl) ?_
    refine lv_imul hx hb dX6_findRest_132 ?_
    refine lv_iadd hx hb dX6_findRest_133 ?_
    refine lv_iload hx hb dX6_findRest_134 (lv_at hl 4 rfl) ?_
    refine lv_iadd hx hb dX6_findRest_136 ?_
    refine lv_iload hx hb dX6_findRest_137 (lv_at hl 5 rfl) ?_
    refine mws_28 hx hb hK hP (hD _) hS h.1 dX6_findRest_139 (fun H locs hP hS => ?_)
    have h := h.2
    refine lv_iinc (v := (x4 + 1)) (lv' := [(4, .int (x4 + 1)), (0, .ref (adr 0)), (1, .int x1), (2, .int x2), (3, .int x3), (5, .int x5)]) hx hb dX6_findRest_140 hl (k := 4) rfl (congrArg (HAdd.hAdd _) (show Int32.ofInt (1) = (1 : Int32) by decide)) (by decide) rfl (fun ls hl => ?_)
    refine lv_goto (tgt := 33) hx hb dX6_findRest_143 (by decide) ?_
    exact hk33 x1 x2 x3 (x4 + 1) (sA u 28 (upd (u.2 28) ((((49 : Int32) * x2) + ((7 : Int32) * x3)) + x4).toNatClampNeg x5)) _ _ _ (lv_sub hl [1, 2, 3, 4, 0] rfl) hP hS h
  have L67 : ∀ (k33 : Int32 → Int32 → Int32 → Int32 → US → Prop) (hk33 : ∀ (x1 : Int32) (x2 : Int32) (x3 : Int32) (x4 : Int32) (u : US) (H : Heap) (locs : List Loc) (ls : Array Slot), lv_has ls 7 [(0, .ref (adr 0)), (1, .int x1), (2, .int x2), (3, .int x3), (4, .int x4)] → va_P D vwCl (mw adr cI cZ u) H → va_S A s.heap H locs → k33 x1 x2 x3 x4 u → gWv p l e wsX6_findRest 3 s m [.ref (adr 0)] below meth c D cI cZ (mw adr cI cZ) A post H locs (F0 m 33 ls [])), ∀ (n : Nat), ∀ (x1 : Int32) (x2 : Int32) (x3 : Int32) (x4 : Int32) (x5 : Int32) (x6 : Int32) (u : US) (H : Heap) (locs : List Loc) (ls : Array Slot), lv_has ls 7 [(0, .ref (adr 0)), (1, .int x1), (2, .int x2), (3, .int x3), (4, .int x4), (5, .int x5), (6, .int x6)] → va_P D vwCl (mw adr cI cZ u) H → va_S A s.heap H locs → wp_X6_findRest_67 k33 post n x1 x2 x3 x4 x5 x6 u → gWv p l e wsX6_findRest 3 s m [.ref (adr 0)] below meth c D cI cZ (mw adr cI cZ) A post H locs (F0 m 67 ls []) := by
    intro k33 hk33 n
    induction n with
    | zero => intro x1 x2 x3 x4 x5 x6 u H locs ls hl hP hS h; exact False.elim h
    | succ n ih =>
      intro x1 x2 x3 x4 x5 x6 u H locs ls hl hP hS h
      refine lv_iload hx hb dX6_findRest_67 (lv_at hl 6 rfl) ?_
      refine lv_iload_n hx hb dX6_findRest_69 rfl (lv_at hl 1 rfl) ?_
      refine lv_icmp_ge (tgt := 121) hx hb dX6_findRest_70 (by decide) (fun hc => ?_) (fun hc => ?_)
      · have h := h.1 hc
        exact L121 _ hk33 x1 x2 x3 x4 x5 u _ _ _ (lv_sub hl [0, 1, 2, 3, 4, 5] rfl) hP hS h
      · have h := h.2 hc
        refine lv_iload_n hx hb dX6_findRest_73 rfl (lv_at hl 2 rfl) ?_
        refine lv_aload_n hx hb dX6_findRest_74 rfl (lv_at hl 0 rfl) ?_
        refine mwg_0_2 (v := (u.1 2)) hx hb hts hinX6 hown hK hP (hts (.fieldLink RX6 72 "FilmBenchModel" "frames" "I") (by decide +kernel)) dX6_findRest_75 rfl ?_
        refine lv_iconst (v := (1 : Int32)) hx hb dX6_findRest_78 (by decide) ?_
        refine lv_isub hx hb dX6_findRest_79 ?_
        refine lv_icmp_ge (tgt := 121) hx hb dX6_findRest_80 (by decide) (fun hc => ?_) (fun hc => ?_)
        · have h := h.1 hc
          exact L121 _ hk33 x1 x2 x3 x4 x5 u _ _ _ (lv_sub hl [0, 1, 2, 3, 4, 5] rfl) hP hS h
        · have h := h.2 hc
          refine lv_aload_n hx hb dX6_findRest_83 rfl (lv_at hl 0 rfl) ?_
          refine lv_iload_n hx hb dX6_findRest_84 rfl (lv_at hl 2 rfl) ?_
          refine lv_iload_n hx hb dX6_findRest_85 rfl (lv_at hl 3 rfl) ?_
          refine lv_iload hx hb dX6_findRest_86 (lv_at hl 4 rfl) ?_
          refine lv_iload hx hb dX6_findRest_88 (lv_at hl 6 rfl) ?_
          refine gcallVi (As := [.int x2, .int x3, .int x4, .int x6]) (rest := []) ⟨hx, hb, hml, hown, hts⟩ (c_X6_by l D cI cZ adr A hD x2 x3 x4 x6 u _ h) (cwV 4 hts gX6_findRest_X6_by rfl rfl rfl (by decide +kernel) ⟨Nat.le_of_ble_eq_true rfl, Nat.le_of_ble_eq_true rfl⟩) (va_recv hK hP (ci := 6) (q0 := 0) rfl rfl) hK hP hS rfl hl.1 rfl (Nat.le_of_ble_eq_true rfl) dX6_findRest_90 ⟨Nat.le_refl _, Nat.le_refl _⟩ (fun r90 u90 H locs h hP hS => ?_)
          refine lv_iload hx hb dX6_findRest_93 (lv_at hl 5 rfl) ?_
          refine lv_icmp_ge (tgt := 111) hx hb dX6_findRest_95 (by decide) (fun hc => ?_) (fun hc => ?_)
          · have h := h.1 hc
            refine lv_iload hx hb dX6_findRest_111 (lv_at hl 5 rfl) ?_
            refine lv_istore (lv' := [(5, .int x5), (0, .ref (adr 0)), (1, .int x1), (2, .int x2), (3, .int x3), (4, .int x4), (6, .int x6)]) hx hb dX6_findRest_113 hl (by decide) rfl (fun ls hl => ?_)
            refine lv_iinc (v := (x6 + 1)) (lv' := [(6, .int (x6 + 1)), (5, .int x5), (0, .ref (adr 0)), (1, .int x1), (2, .int x2), (3, .int x3), (4, .int x4)]) hx hb dX6_findRest_115 hl (k := 6) rfl (congrArg (HAdd.hAdd _) (show Int32.ofInt (1) = (1 : Int32) by decide)) (by decide) rfl (fun ls hl => ?_)
            refine lv_goto (tgt := 67) hx hb dX6_findRest_118 (by decide) ?_
            exact ih x1 x2 x3 x4 x5 (x6 + 1) u90 _ _ _ (lv_sub hl [2, 3, 4, 5, 6, 1, 0] rfl) hP hS h
          · have h := h.2 hc
            refine lv_aload_n hx hb dX6_findRest_98 rfl (lv_at hl 0 rfl) ?_
            refine lv_iload_n hx hb dX6_findRest_99 rfl (lv_at hl 2 rfl) ?_
            refine lv_iload_n hx hb dX6_findRest_100 rfl (lv_at hl 3 rfl) ?_
            refine lv_iload hx hb dX6_findRest_101 (lv_at hl 4 rfl) ?_
            refine lv_iload hx hb dX6_findRest_103 (lv_at hl 6 rfl) ?_
            refine gcallVi (As := [.int x2, .int x3, .int x4, .int x6]) (rest := []) ⟨hx, hb, hml, hown, hts⟩ (c_X6_by l D cI cZ adr A hD x2 x3 x4 x6 u90 _ h) (cwV 4 hts gX6_findRest_X6_by rfl rfl rfl (by decide +kernel) ⟨Nat.le_of_ble_eq_true rfl, Nat.le_of_ble_eq_true rfl⟩) (va_recv hK hP (ci := 6) (q0 := 0) rfl rfl) hK hP hS rfl hl.1 rfl (Nat.le_of_ble_eq_true rfl) dX6_findRest_105 ⟨Nat.le_refl _, Nat.le_refl _⟩ (fun r105 u105 H locs h hP hS => ?_)
            refine lv_goto (tgt := 113) hx hb dX6_findRest_108 (by decide) ?_
            refine lv_istore (lv' := [(5, .int r105), (0, .ref (adr 0)), (1, .int x1), (2, .int x2), (3, .int x3), (4, .int x4), (6, .int x6)]) hx hb dX6_findRest_113 hl (by decide) rfl (fun ls hl => ?_)
            refine lv_iinc (v := (x6 + 1)) (lv' := [(6, .int (x6 + 1)), (5, .int r105), (0, .ref (adr 0)), (1, .int x1), (2, .int x2), (3, .int x3), (4, .int x4)]) hx hb dX6_findRest_115 hl (k := 6) rfl (congrArg (HAdd.hAdd _) (show Int32.ofInt (1) = (1 : Int32) by decide)) (by decide) rfl (fun ls hl => ?_)
            refine lv_goto (tgt := 67) hx hb dX6_findRest_118 (by decide) ?_
            exact ih x1 x2 x3 x4 r105 (x6 + 1) u105 _ _ _ (lv_sub hl [2, 3, 4, 5, 6, 1, 0] rfl) hP hS h
  have L33 : ∀ (k25 : Int32 → Int32 → Int32 → US → Prop) (hk25 : ∀ (x1 : Int32) (x2 : Int32) (x3 : Int32) (u : US) (H : Heap) (locs : List Loc) (ls : Array Slot), lv_has ls 7 [(0, .ref (adr 0)), (1, .int x1), (2, .int x2), (3, .int x3)] → va_P D vwCl (mw adr cI cZ u) H → va_S A s.heap H locs → k25 x1 x2 x3 u → gWv p l e wsX6_findRest 3 s m [.ref (adr 0)] below meth c D cI cZ (mw adr cI cZ) A post H locs (F0 m 25 ls [])), ∀ (n : Nat), ∀ (x1 : Int32) (x2 : Int32) (x3 : Int32) (x4 : Int32) (u : US) (H : Heap) (locs : List Loc) (ls : Array Slot), lv_has ls 7 [(0, .ref (adr 0)), (1, .int x1), (2, .int x2), (3, .int x3), (4, .int x4)] → va_P D vwCl (mw adr cI cZ u) H → va_S A s.heap H locs → wp_X6_findRest_33 k25 post n x1 x2 x3 x4 u → gWv p l e wsX6_findRest 3 s m [.ref (adr 0)] below meth c D cI cZ (mw adr cI cZ) A post H locs (F0 m 33 ls []) := by
    intro k25 hk25 n
    induction n with
    | zero => intro x1 x2 x3 x4 u H locs ls hl hP hS h; exact False.elim h
    | succ n ih =>
      intro x1 x2 x3 x4 u H locs ls hl hP hS h
      refine lv_iload hx hb dX6_findRest_33 (lv_at hl 4 rfl) ?_
      refine lv_iload_n hx hb dX6_findRest_35 rfl (lv_at hl 1 rfl) ?_
      refine lv_icmp_ge (tgt := 146) hx hb dX6_findRest_36 (by decide) (fun hc => ?_) (fun hc => ?_)
      · have h := h.1 hc
        refine lv_iinc (v := (x3 + 1)) (lv' := [(3, .int (x3 + 1)), (0, .ref (adr 0)), (1, .int x1), (2, .int x2), (4, .int x4)]) hx hb dX6_findRest_146 hl (k := 3) rfl (congrArg (HAdd.hAdd _) (show Int32.ofInt (1) = (1 : Int32) by decide)) (by decide) rfl (fun ls hl => ?_)
        refine lv_goto (tgt := 25) hx hb dX6_findRest_149 (by decide) ?_
        exact hk25 x1 x2 (x3 + 1) u _ _ _ (lv_sub hl [1, 2, 3, 0] rfl) hP hS h
      · have h := h.2 hc
        refine lv_iload_n hx hb dX6_findRest_39 rfl (lv_at hl 2 rfl) ?_
        refine lv_aload_n hx hb dX6_findRest_40 rfl (lv_at hl 0 rfl) ?_
        refine mwg_0_2 (v := (u.1 2)) hx hb hts hinX6 hown hK hP (hts (.fieldLink RX6 72 "FilmBenchModel" "frames" "I") (by decide +kernel)) dX6_findRest_41 rfl ?_
        refine lv_iconst (v := (1 : Int32)) hx hb dX6_findRest_44 (by decide) ?_
        refine lv_isub hx hb dX6_findRest_45 ?_
        refine lv_icmp_ne (tgt := 53) hx hb dX6_findRest_46 (by decide) (fun hc => ?_) (fun hc => ?_)
        · have h := h.2 hc
          refine lv_aload_n hx hb dX6_findRest_53 rfl (lv_at hl 0 rfl) ?_
          refine lv_iload_n hx hb dX6_findRest_54 rfl (lv_at hl 2 rfl) ?_
          refine lv_iload_n hx hb dX6_findRest_55 rfl (lv_at hl 3 rfl) ?_
          refine lv_iload hx hb dX6_findRest_56 (lv_at hl 4 rfl) ?_
          refine lv_iconst (v := (0 : Int32)) hx hb dX6_findRest_58 (by decide) ?_
          refine gcallVi (As := [.int x2, .int x3, .int x4, .int (0 : Int32)]) (rest := []) ⟨hx, hb, hml, hown, hts⟩ (c_X6_by l D cI cZ adr A hD x2 x3 x4 (0 : Int32) u _ h) (cwV 4 hts gX6_findRest_X6_by rfl rfl rfl (by decide +kernel) ⟨Nat.le_of_ble_eq_true rfl, Nat.le_of_ble_eq_true rfl⟩) (va_recv hK hP (ci := 6) (q0 := 0) rfl rfl) hK hP hS rfl hl.1 rfl (Nat.le_of_ble_eq_true rfl) dX6_findRest_59 ⟨Nat.le_refl _, Nat.le_refl _⟩ (fun r59 u59 H locs h hP hS => ?_)
          refine lv_istore (lv' := [(5, .int r59), (0, .ref (adr 0)), (1, .int x1), (2, .int x2), (3, .int x3), (4, .int x4)]) hx hb dX6_findRest_62 hl (by decide) rfl (fun ls hl => ?_)
          refine lv_iconst (v := (1 : Int32)) hx hb dX6_findRest_64 (by decide) ?_
          refine lv_istore (lv' := [(6, .int (1 : Int32)), (5, .int r59), (0, .ref (adr 0)), (1, .int x1), (2, .int x2), (3, .int x3), (4, .int x4)]) hx hb dX6_findRest_65 hl (by decide) rfl (fun ls hl => ?_)
          obtain ⟨n, h⟩ := h
          exact L67 _ ih n x1 x2 x3 x4 r59 (1 : Int32) u59 _ _ _ (lv_sub hl [2, 3, 4, 5, 6, 1, 0] rfl) hP hS h
        · have h := h.1 hc
          refine lv_iconst (v := (0 : Int32)) hx hb dX6_findRest_49 (by decide) ?_
          refine lv_goto (tgt := 62) hx hb dX6_findRest_50 (by decide) ?_
          refine lv_istore (lv' := [(5, .int (0 : Int32)), (0, .ref (adr 0)), (1, .int x1), (2, .int x2), (3, .int x3), (4, .int x4)]) hx hb dX6_findRest_62 hl (by decide) rfl (fun ls hl => ?_)
          refine lv_iconst (v := (1 : Int32)) hx hb dX6_findRest_64 (by decide) ?_
          refine lv_istore (lv' := [(6, .int (1 : Int32)), (5, .int (0 : Int32)), (0, .ref (adr 0)), (1, .int x1), (2, .int x2), (3, .int x3), (4, .int x4)]) hx hb dX6_findRest_65 hl (by decide) rfl (fun ls hl => ?_)
          obtain ⟨n, h⟩ := h
          exact L67 _ ih n x1 x2 x3 x4 (0 : Int32) (1 : Int32) u _ _ _ (lv_sub hl [2, 3, 4, 5, 6, 1, 0] rfl) hP hS h
  have L25 : ∀ (k18 : Int32 → Int32 → US → Prop) (hk18 : ∀ (x1 : Int32) (x2 : Int32) (u : US) (H : Heap) (locs : List Loc) (ls : Array Slot), lv_has ls 7 [(0, .ref (adr 0)), (1, .int x1), (2, .int x2)] → va_P D vwCl (mw adr cI cZ u) H → va_S A s.heap H locs → k18 x1 x2 u → gWv p l e wsX6_findRest 3 s m [.ref (adr 0)] below meth c D cI cZ (mw adr cI cZ) A post H locs (F0 m 18 ls [])), ∀ (n : Nat), ∀ (x1 : Int32) (x2 : Int32) (x3 : Int32) (u : US) (H : Heap) (locs : List Loc) (ls : Array Slot), lv_has ls 7 [(0, .ref (adr 0)), (1, .int x1), (2, .int x2), (3, .int x3)] → va_P D vwCl (mw adr cI cZ u) H → va_S A s.heap H locs → wp_X6_findRest_25 k18 post n x1 x2 x3 u → gWv p l e wsX6_findRest 3 s m [.ref (adr 0)] below meth c D cI cZ (mw adr cI cZ) A post H locs (F0 m 25 ls []) := by
    intro k18 hk18 n
    induction n with
    | zero => intro x1 x2 x3 u H locs ls hl hP hS h; exact False.elim h
    | succ n ih =>
      intro x1 x2 x3 u H locs ls hl hP hS h
      refine lv_iload_n hx hb dX6_findRest_25 rfl (lv_at hl 3 rfl) ?_
      refine lv_iload_n hx hb dX6_findRest_26 rfl (lv_at hl 1 rfl) ?_
      refine lv_icmp_ge (tgt := 152) hx hb dX6_findRest_27 (by decide) (fun hc => ?_) (fun hc => ?_)
      · have h := h.1 hc
        refine lv_iinc (v := (x2 + (-1))) (lv' := [(2, .int (x2 + (-1))), (0, .ref (adr 0)), (1, .int x1), (3, .int x3)]) hx hb dX6_findRest_152 hl (k := 2) rfl (congrArg (HAdd.hAdd _) (show Int32.ofInt (-1) = (-1 : Int32) by decide)) (by decide) rfl (fun ls hl => ?_)
        refine lv_goto (tgt := 18) hx hb dX6_findRest_155 (by decide) ?_
        exact hk18 x1 (x2 + (-1)) u _ _ _ (lv_sub hl [1, 2, 0] rfl) hP hS h
      · have h := h.2 hc
        refine lv_iconst (v := (0 : Int32)) hx hb dX6_findRest_30 (by decide) ?_
        refine lv_istore (lv' := [(4, .int (0 : Int32)), (0, .ref (adr 0)), (1, .int x1), (2, .int x2), (3, .int x3)]) hx hb dX6_findRest_31 hl (by decide) rfl (fun ls hl => ?_)
        obtain ⟨n, h⟩ := h
        exact L33 _ ih n x1 x2 x3 (0 : Int32) u _ _ _ (lv_sub hl [1, 2, 3, 4, 0] rfl) hP hS h
  have L18 : ∀ (n : Nat), ∀ (x1 : Int32) (x2 : Int32) (u : US) (H : Heap) (locs : List Loc) (ls : Array Slot), lv_has ls 7 [(0, .ref (adr 0)), (1, .int x1), (2, .int x2)] → va_P D vwCl (mw adr cI cZ u) H → va_S A s.heap H locs → wp_X6_findRest_18  post n x1 x2 u → gWv p l e wsX6_findRest 3 s m [.ref (adr 0)] below meth c D cI cZ (mw adr cI cZ) A post H locs (F0 m 18 ls []) := by
    intro  n
    induction n with
    | zero => intro x1 x2 u H locs ls hl hP hS h; exact False.elim h
    | succ n ih =>
      intro x1 x2 u H locs ls hl hP hS h
      refine lv_iload_n hx hb dX6_findRest_18 rfl (lv_at hl 2 rfl) ?_
      refine lv_iconst (v := (1 : Int32)) hx hb dX6_findRest_19 (by decide) ?_
      refine lv_icmp_lt (tgt := 158) hx hb dX6_findRest_20 (by decide) (fun hc => ?_) (fun hc => ?_)
      · have h := h.1 hc
        exact gvret hx hb hr hlocks hK hP hS h dX6_findRest_158
      · have h := h.2 hc
        refine lv_iconst (v := (0 : Int32)) hx hb dX6_findRest_23 (by decide) ?_
        refine lv_istore_n (lv' := [(3, .int (0 : Int32)), (0, .ref (adr 0)), (1, .int x1), (2, .int x2)]) hx hb dX6_findRest_24 rfl hl (by decide) rfl (fun ls hl => ?_)
        obtain ⟨n, h⟩ := h
        exact L25 _ ih n x1 x2 (0 : Int32) u _ _ _ (lv_sub hl [1, 2, 3, 0] rfl) hP hS h
  have hl := lv_entry ([.ref (adr 0)]) (n := 7) (Nat.le_of_ble_eq_true rfl)
  rw [lg_entry_eq]
  generalize (lg_sl ([.ref (adr 0)]) ++ List.replicate (7 - (lg_sl ([.ref (adr 0)])).length) Slot.unset).toArray = ls at hl ⊢
  replace hl : lv_has ls 7 [(0, .ref (adr 0))] := hl
  refine lv_iconst (v := (2 : Int32)) hx hb dX6_findRest_0 (by decide) ?_
  refine lv_aload_n hx hb dX6_findRest_1 rfl (lv_at hl 0 rfl) ?_
  refine mwg_0_10 hx hb hts hinX6 hown hK hP (hts (.fieldLink RX6 36 "FilmBenchModel" "rules" "[I") (by decide +kernel)) dX6_findRest_2 ?_
  refine lv_iconst (v := (0 : Int32)) hx hb dX6_findRest_5 (by decide) ?_
  refine mwl_10 (v := ((u.2 10) (0 : Int32).toNatClampNeg)) hx hb hK hP (by unfold vp_in; decide) dX6_findRest_6 rfl ?_
  refine lv_imul hx hb dX6_findRest_7 ?_
  refine lv_iconst (v := (1 : Int32)) hx hb dX6_findRest_8 (by decide) ?_
  refine lv_iadd hx hb dX6_findRest_9 ?_
  refine lv_istore_n (lv' := [(1, .int (((2 : Int32) * ((u.2 10) (0 : Int32).toNatClampNeg)) + (1 : Int32))), (0, .ref (adr 0))]) hx hb dX6_findRest_10 rfl hl (by decide) rfl (fun ls hl => ?_)
  refine lv_aload_n hx hb dX6_findRest_11 rfl (lv_at hl 1 rfl) ?_
  refine mwg_0_2 (v := (u.1 2)) hx hb hts hinX6 hown hK hP (hts (.fieldLink RX6 72 "FilmBenchModel" "frames" "I") (by decide +kernel)) dX6_findRest_12 rfl ?_
  refine lv_iconst (v := (1 : Int32)) hx hb dX6_findRest_15 (by decide) ?_
  refine lv_isub hx hb dX6_findRest_16 ?_
  refine lv_istore_n (lv' := [(2, .int ((u.1 2) - (1 : Int32))), (1, .int (((2 : Int32) * ((u.2 10) (0 : Int32).toNatClampNeg)) + (1 : Int32))), (0, .ref (adr 0))]) hx hb dX6_findRest_17 rfl hl (by decide) rfl (fun ls hl => ?_)
  obtain ⟨n, h⟩ := h
  exact L18  n (((2 : Int32) * ((u.2 10) (0 : Int32).toNatClampNeg)) + (1 : Int32)) ((u.1 2) - (1 : Int32)) u _ _ _ (lv_sub hl [2, 1, 0] rfl) hP hS h
