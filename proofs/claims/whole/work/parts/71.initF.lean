set_option maxHeartbeats 4000000 in
set_option maxRecDepth 100000 in
theorem c_X1_init (l : Launch) (D : va_G) (cI cZ : ClassId) (h0 : Nat) : gC l yX1_init wsX1_init { frames := 1, cells := 1, slots := 360, locals := 30 } D cI cZ gX [.ref h0] [(h0, .inr (1, [.int 0, .int 0, .int 0, .int 0, .null]))] (fun w => ∃ (z8 : Nat), w = [(h0, .inr (1, [.int 2, .int 2, .int 4, .int 0, .ref z8])), (z8, .inl (cI, 360, .inl (fun _ => 0)))]) 1 360 := by
  intro sz
  refine Met.ofW (cc := cX1_init) (maxL := 1) (ret := none) (by decide) rfl ?_
  intro p e s m args below meth c s₁ B hml hv
  obtain ⟨rfl, hsz, hP, hK, hD0, hE⟩ := hv
  have hx := B.exec
  have hb := B.bytes
  have hr := B.returns
  have hts := atoms_spec (ws := wsX1_init) B.pre
  have hown : s.vm.findClass RX1 = some m.cls := findClass_of_methodNamed B.named
  have hlocks := B.notSynchronized
  have hin : meth.name = "<init>" := (name_of_methodNamed B.named B.method).1
  subst hsz
  have hD := hD0.self (sz := s.heap.size)
  have hin1 : ∀ w ∈ wsX10, w ∈ wsX1_init := by decide +kernel
  generalize hAe : va_A [(h0, .inr (1, [.int 0, .int 0, .int 0, .int 0, .null]))] s.heap.size = A at hD ⊢
  have hA : ∀ q : Nat, s.heap.size ≤ q → A q := fun q h => by rw [← hAe]; exact Or.inr h
  have hS : va_S A s.heap s.heap [] := va_S.rf
  have hP : va_P D vwCl [(h0, .inr (1, [.int 0, .int 0, .int 0, .int 0, .null]))] s.heap := hP
  have hl := lv_entry ([.ref h0]) (n := 1) (Nat.le_of_ble_eq_true rfl)
  rw [lg_entry_eq]
  generalize (lg_sl ([.ref h0]) ++ List.replicate (1 - (lg_sl ([.ref h0])).length) Slot.unset).toArray = ls at hl ⊢
  have hl : lv_has ls 1 [(0, .ref h0)] := hl
  refine lv_aload_n hx hb dX1_init_0 rfl (lv_at hl 0 rfl) ?_
  refine W.objInit hx hb hown (hts (.methodLink RX1 3 objectInit) (by decide +kernel)) (hts (.instanceMethod objectInit) (by decide +kernel)) (hts _ (List.mem_of_getElem? (i := 3) rfl)) rfl (by rw [hml]; exact hl.1) rfl dX1_init_1 (Nat.le_of_ble_eq_true rfl) (Nat.le_of_ble_eq_true rfl) ?_
  refine W.eq (g2 := F0 m 4 ls []) rfl ?_
  refine lv_aload_n hx hb dX1_init_4 rfl (lv_at hl 0 rfl) ?_
  refine lv_sipush (v := (360 : Int32)) hx hb dX1_init_5 (by decide) ?_
  refine gnewI (N := 360) hx hb (hts (.arrayClass .int) (by decide +kernel)) hK hP hD hS hA (by decide) (by decide) (by decide) (Nat.le_of_ble_eq_true rfl) (Nat.le_of_ble_eq_true rfl) dX1_init_8 (fun z8 H hP hD hS => ?_)
  have hP : va_P D vwCl [(h0, .inr (1, [.int 0, .int 0, .int 0, .int 0, .null])), (z8, .inl (cI, 360, .inl (fun _ => 0)))] H := hP
  have hD : va_D A [(h0, .inr (1, [.int 0, .int 0, .int 0, .int 0, .null])), (z8, .inl (cI, 360, .inl (fun _ => 0)))] := hD
  refine W.widen (k := 1) (n := 360) (by omega) (by omega) ?_
  refine va_putF (ci := 1) (v := .ref z8) (ty := .array .int) (C := RX1) (T := TX1) (N := 5) hx hb hts hin1 tyX1 tyX1_ok nmX1 hown hK hP hD hS 0 rfl rfl 4 (by decide) (hts (.fieldLink RX1 9 "FilmBench$Reel" "greys" "[I") (by decide +kernel)) (fun _ h => h) rfl hin rfl (by decide +kernel) rfl rfl (Nat.le_of_ble_eq_true rfl) dX1_init_10 (fun H locs hP hD hS => ?_)
  have hP : va_P D vwCl [(h0, .inr (1, [.int 0, .int 0, .int 0, .int 0, .ref z8])), (z8, .inl (cI, 360, .inl (fun _ => 0)))] H := hP
  have hD : va_D A [(h0, .inr (1, [.int 0, .int 0, .int 0, .int 0, .ref z8])), (z8, .inl (cI, 360, .inl (fun _ => 0)))] := hD
  refine lv_aload_n hx hb dX1_init_13 rfl (lv_at hl 0 rfl) ?_
  refine lv_iconst (v := (2 : Int32)) hx hb dX1_init_14 (by decide) ?_
  refine va_put (ci := 1) (v := .int 2) (ty := .int) (C := RX1) (T := TX1) (N := 5) hx hb hts hin1 tyX1 tyX1_ok nmX1 hown hK hP hD hS 0 rfl rfl 0 (by decide) (hts (.fieldLink RX1 15 "FilmBench$Reel" "high" "I") (by decide +kernel)) (fun _ h => h) rfl (by decide +kernel) rfl rfl (Nat.le_of_ble_eq_true rfl) dX1_init_15 (fun H locs hP hD hS => ?_)
  have hP : va_P D vwCl [(h0, .inr (1, [.int 2, .int 0, .int 0, .int 0, .ref z8])), (z8, .inl (cI, 360, .inl (fun _ => 0)))] H := hP
  have hD : va_D A [(h0, .inr (1, [.int 2, .int 0, .int 0, .int 0, .ref z8])), (z8, .inl (cI, 360, .inl (fun _ => 0)))] := hD
  refine lv_aload_n hx hb dX1_init_18 rfl (lv_at hl 0 rfl) ?_
  refine lv_iconst (v := (2 : Int32)) hx hb dX1_init_19 (by decide) ?_
  refine va_put (ci := 1) (v := .int 2) (ty := .int) (C := RX1) (T := TX1) (N := 5) hx hb hts hin1 tyX1 tyX1_ok nmX1 hown hK hP hD hS 0 rfl rfl 1 (by decide) (hts (.fieldLink RX1 19 "FilmBench$Reel" "wide" "I") (by decide +kernel)) (fun _ h => h) rfl (by decide +kernel) rfl rfl (Nat.le_of_ble_eq_true rfl) dX1_init_20 (fun H locs hP hD hS => ?_)
  have hP : va_P D vwCl [(h0, .inr (1, [.int 2, .int 2, .int 0, .int 0, .ref z8])), (z8, .inl (cI, 360, .inl (fun _ => 0)))] H := hP
  have hD : va_D A [(h0, .inr (1, [.int 2, .int 2, .int 0, .int 0, .ref z8])), (z8, .inl (cI, 360, .inl (fun _ => 0)))] := hD
  refine lv_aload_n hx hb dX1_init_23 rfl (lv_at hl 0 rfl) ?_
  refine lv_iconst (v := (4 : Int32)) hx hb dX1_init_24 (by decide) ?_
  refine va_put (ci := 1) (v := .int 4) (ty := .int) (C := RX1) (T := TX1) (N := 5) hx hb hts hin1 tyX1 tyX1_ok nmX1 hown hK hP hD hS 0 rfl rfl 2 (by decide) (hts (.fieldLink RX1 22 "FilmBench$Reel" "squares" "I") (by decide +kernel)) (fun _ h => h) rfl (by decide +kernel) rfl rfl (Nat.le_of_ble_eq_true rfl) dX1_init_25 (fun H locs hP hD hS => ?_)
  have hP : va_P D vwCl [(h0, .inr (1, [.int 2, .int 2, .int 4, .int 0, .ref z8])), (z8, .inl (cI, 360, .inl (fun _ => 0)))] H := hP
  have hD : va_D A [(h0, .inr (1, [.int 2, .int 2, .int 4, .int 0, .ref z8])), (z8, .inl (cI, 360, .inl (fun _ => 0)))] := hD
  refine lv_aload_n hx hb dX1_init_28 rfl (lv_at hl 0 rfl) ?_
  refine lv_iconst (v := (0 : Int32)) hx hb dX1_init_29 (by decide) ?_
  refine va_put (ci := 1) (v := .int 0) (ty := .int) (C := RX1) (T := TX1) (N := 5) hx hb hts hin1 tyX1 tyX1_ok nmX1 hown hK hP hD hS 0 rfl rfl 3 (by decide) (hts (.fieldLink RX1 25 "FilmBench$Reel" "frames" "I") (by decide +kernel)) (fun _ h => h) rfl (by decide +kernel) rfl rfl (Nat.le_of_ble_eq_true rfl) dX1_init_30 (fun H locs hP hD hS => ?_)
  have hP : va_P D vwCl [(h0, .inr (1, [.int 2, .int 2, .int 4, .int 0, .ref z8])), (z8, .inl (cI, 360, .inl (fun _ => 0)))] H := hP
  have hD : va_D A [(h0, .inr (1, [.int 2, .int 2, .int 4, .int 0, .ref z8])), (z8, .inl (cI, 360, .inl (fun _ => 0)))] := hD
  exact W.vret hx hb hr (fun t ht hW => ⟨⟨([(h0, .inr (1, [.int 2, .int 2, .int 4, .int 0, .ref z8])), (z8, .inl (cI, 360, .inl (fun _ => 0)))] : va_W), rfl, ⟨z8, rfl⟩, by rw [ht]; exact hP, va_K.moved hW.alike hK, hD⟩, hS.F ht⟩) hS.2.2 dX1_init_33 hlocks
set_option maxHeartbeats 4000000 in
set_option maxRecDepth 100000 in
theorem c_X0_init (l : Launch) (D : va_G) (cI cZ : ClassId) (h0 : Nat) : gC l yX0_init wsX0_init { frames := 1, cells := 5, slots := 60, locals := 30 } D cI cZ gX [.ref h0] [(h0, .inr (0, [.int 0, .null, .null, .null, .null, .null]))] (fun w => ∃ (z12 z20 z28 z36 z44 : Nat), w = [(h0, .inr (0, [.int 0, .ref z12, .ref z20, .ref z28, .ref z36, .ref z44])), (z12, .inl (cI, 12, .inl (fun _ => 0))), (z20, .inl (cI, 12, .inl (fun _ => 0))), (z28, .inl (cI, 12, .inl (fun _ => 0))), (z36, .inl (cI, 12, .inl (fun _ => 0))), (z44, .inl (cZ, 12, .inl (fun _ => 0)))]) 5 60 := by
  intro sz
  refine Met.ofW (cc := cX0_init) (maxL := 1) (ret := none) (by decide) rfl ?_
  intro p e s m args below meth c s₁ B hml hv
  obtain ⟨rfl, hsz, hP, hK, hD0, hE⟩ := hv
  have hx := B.exec
  have hb := B.bytes
  have hr := B.returns
  have hts := atoms_spec (ws := wsX0_init) B.pre
  have hown : s.vm.findClass RX0 = some m.cls := findClass_of_methodNamed B.named
  have hlocks := B.notSynchronized
  have hin : meth.name = "<init>" := (name_of_methodNamed B.named B.method).1
  subst hsz
  have hD := hD0.self (sz := s.heap.size)
  have hin0 : ∀ w ∈ wsX00, w ∈ wsX0_init := by decide +kernel
  generalize hAe : va_A [(h0, .inr (0, [.int 0, .null, .null, .null, .null, .null]))] s.heap.size = A at hD ⊢
  have hA : ∀ q : Nat, s.heap.size ≤ q → A q := fun q h => by rw [← hAe]; exact Or.inr h
  have hS : va_S A s.heap s.heap [] := va_S.rf
  have hP : va_P D vwCl [(h0, .inr (0, [.int 0, .null, .null, .null, .null, .null]))] s.heap := hP
  have hl := lv_entry ([.ref h0]) (n := 1) (Nat.le_of_ble_eq_true rfl)
  rw [lg_entry_eq]
  generalize (lg_sl ([.ref h0]) ++ List.replicate (1 - (lg_sl ([.ref h0])).length) Slot.unset).toArray = ls at hl ⊢
  have hl : lv_has ls 1 [(0, .ref h0)] := hl
  refine lv_aload_n hx hb dX0_init_0 rfl (lv_at hl 0 rfl) ?_
  refine W.objInit hx hb hown (hts (.methodLink RX0 3 objectInit) (by decide +kernel)) (hts (.instanceMethod objectInit) (by decide +kernel)) (hts _ (List.mem_of_getElem? (i := 3) rfl)) rfl (by rw [hml]; exact hl.1) rfl dX0_init_1 (Nat.le_of_ble_eq_true rfl) (Nat.le_of_ble_eq_true rfl) ?_
  refine W.eq (g2 := F0 m 4 ls []) rfl ?_
  refine lv_aload_n hx hb dX0_init_4 rfl (lv_at hl 0 rfl) ?_
  refine lv_iconst (v := (0 : Int32)) hx hb dX0_init_5 (by decide) ?_
  refine va_put (ci := 0) (v := .int 0) (ty := .int) (C := RX0) (T := TX0) (N := 6) hx hb hts hin0 tyX0 tyX0_ok nmX0 hown hK hP hD hS 0 rfl rfl 0 (by decide) (hts (.fieldLink RX0 9 "FilmBench$Layers" "count" "I") (by decide +kernel)) (fun _ h => h) rfl (by decide +kernel) rfl rfl (Nat.le_of_ble_eq_true rfl) dX0_init_6 (fun H locs hP hD hS => ?_)
  have hP : va_P D vwCl [(h0, .inr (0, [.int 0, .null, .null, .null, .null, .null]))] H := hP
  have hD : va_D A [(h0, .inr (0, [.int 0, .null, .null, .null, .null, .null]))] := hD
  refine lv_aload_n hx hb dX0_init_9 rfl (lv_at hl 0 rfl) ?_
  refine lv_bipush (v := (12 : Int32)) hx hb dX0_init_10 (by decide) ?_
  refine gnewI (N := 12) hx hb (hts (.arrayClass .int) (by decide +kernel)) hK hP hD hS hA (by decide) (by decide) (by decide) (Nat.le_of_ble_eq_true rfl) (Nat.le_of_ble_eq_true rfl) dX0_init_12 (fun z12 H hP hD hS => ?_)
  have hP : va_P D vwCl [(h0, .inr (0, [.int 0, .null, .null, .null, .null, .null])), (z12, .inl (cI, 12, .inl (fun _ => 0)))] H := hP
  have hD : va_D A [(h0, .inr (0, [.int 0, .null, .null, .null, .null, .null])), (z12, .inl (cI, 12, .inl (fun _ => 0)))] := hD
  refine W.widen (k := 1) (n := 12) (by omega) (by omega) ?_
  refine va_putF (ci := 0) (v := .ref z12) (ty := .array .int) (C := RX0) (T := TX0) (N := 6) hx hb hts hin0 tyX0 tyX0_ok nmX0 hown hK hP hD hS 0 rfl rfl 1 (by decide) (hts (.fieldLink RX0 15 "FilmBench$Layers" "kinds" "[I") (by decide +kernel)) (fun _ h => h) rfl hin rfl (by decide +kernel) rfl rfl (Nat.le_of_ble_eq_true rfl) dX0_init_14 (fun H locs hP hD hS => ?_)
  have hP : va_P D vwCl [(h0, .inr (0, [.int 0, .ref z12, .null, .null, .null, .null])), (z12, .inl (cI, 12, .inl (fun _ => 0)))] H := hP
  have hD : va_D A [(h0, .inr (0, [.int 0, .ref z12, .null, .null, .null, .null])), (z12, .inl (cI, 12, .inl (fun _ => 0)))] := hD
  refine lv_aload_n hx hb dX0_init_17 rfl (lv_at hl 0 rfl) ?_
  refine lv_bipush (v := (12 : Int32)) hx hb dX0_init_18 (by decide) ?_
  refine gnewI (N := 12) hx hb (hts (.arrayClass .int) (by decide +kernel)) hK hP hD hS hA (by decide) (by decide) (by decide) (Nat.le_of_ble_eq_true rfl) (Nat.le_of_ble_eq_true rfl) dX0_init_20 (fun z20 H hP hD hS => ?_)
  have hP : va_P D vwCl [(h0, .inr (0, [.int 0, .ref z12, .null, .null, .null, .null])), (z12, .inl (cI, 12, .inl (fun _ => 0))), (z20, .inl (cI, 12, .inl (fun _ => 0)))] H := hP
  have hD : va_D A [(h0, .inr (0, [.int 0, .ref z12, .null, .null, .null, .null])), (z12, .inl (cI, 12, .inl (fun _ => 0))), (z20, .inl (cI, 12, .inl (fun _ => 0)))] := hD
  refine W.widen (k := 2) (n := 24) (by omega) (by omega) ?_
  refine va_putF (ci := 0) (v := .ref z20) (ty := .array .int) (C := RX0) (T := TX0) (N := 6) hx hb hts hin0 tyX0 tyX0_ok nmX0 hown hK hP hD hS 0 rfl rfl 2 (by decide) (hts (.fieldLink RX0 19 "FilmBench$Layers" "owners" "[I") (by decide +kernel)) (fun _ h => h) rfl hin rfl (by decide +kernel) rfl rfl (Nat.le_of_ble_eq_true rfl) dX0_init_22 (fun H locs hP hD hS => ?_)
  have hP : va_P D vwCl [(h0, .inr (0, [.int 0, .ref z12, .ref z20, .null, .null, .null])), (z12, .inl (cI, 12, .inl (fun _ => 0))), (z20, .inl (cI, 12, .inl (fun _ => 0)))] H := hP
  have hD : va_D A [(h0, .inr (0, [.int 0, .ref z12, .ref z20, .null, .null, .null])), (z12, .inl (cI, 12, .inl (fun _ => 0))), (z20, .inl (cI, 12, .inl (fun _ => 0)))] := hD
  refine lv_aload_n hx hb dX0_init_25 rfl (lv_at hl 0 rfl) ?_
  refine lv_bipush (v := (12 : Int32)) hx hb dX0_init_26 (by decide) ?_
  refine gnewI (N := 12) hx hb (hts (.arrayClass .int) (by decide +kernel)) hK hP hD hS hA (by decide) (by decide) (by decide) (Nat.le_of_ble_eq_true rfl) (Nat.le_of_ble_eq_true rfl) dX0_init_28 (fun z28 H hP hD hS => ?_)
  have hP : va_P D vwCl [(h0, .inr (0, [.int 0, .ref z12, .ref z20, .null, .null, .null])), (z12, .inl (cI, 12, .inl (fun _ => 0))), (z20, .inl (cI, 12, .inl (fun _ => 0))), (z28, .inl (cI, 12, .inl (fun _ => 0)))] H := hP
  have hD : va_D A [(h0, .inr (0, [.int 0, .ref z12, .ref z20, .null, .null, .null])), (z12, .inl (cI, 12, .inl (fun _ => 0))), (z20, .inl (cI, 12, .inl (fun _ => 0))), (z28, .inl (cI, 12, .inl (fun _ => 0)))] := hD
  refine W.widen (k := 3) (n := 36) (by omega) (by omega) ?_
  refine va_putF (ci := 0) (v := .ref z28) (ty := .array .int) (C := RX0) (T := TX0) (N := 6) hx hb hts hin0 tyX0 tyX0_ok nmX0 hown hK hP hD hS 0 rfl rfl 3 (by decide) (hts (.fieldLink RX0 22 "FilmBench$Layers" "as" "[I") (by decide +kernel)) (fun _ h => h) rfl hin rfl (by decide +kernel) rfl rfl (Nat.le_of_ble_eq_true rfl) dX0_init_30 (fun H locs hP hD hS => ?_)
  have hP : va_P D vwCl [(h0, .inr (0, [.int 0, .ref z12, .ref z20, .ref z28, .null, .null])), (z12, .inl (cI, 12, .inl (fun _ => 0))), (z20, .inl (cI, 12, .inl (fun _ => 0))), (z28, .inl (cI, 12, .inl (fun _ => 0)))] H := hP
  have hD : va_D A [(h0, .inr (0, [.int 0, .ref z12, .ref z20, .ref z28, .null, .null])), (z12, .inl (cI, 12, .inl (fun _ => 0))), (z20, .inl (cI, 12, .inl (fun _ => 0))), (z28, .inl (cI, 12, .inl (fun _ => 0)))] := hD
  refine lv_aload_n hx hb dX0_init_33 rfl (lv_at hl 0 rfl) ?_
  refine lv_bipush (v := (12 : Int32)) hx hb dX0_init_34 (by decide) ?_
  refine gnewI (N := 12) hx hb (hts (.arrayClass .int) (by decide +kernel)) hK hP hD hS hA (by decide) (by decide) (by decide) (Nat.le_of_ble_eq_true rfl) (Nat.le_of_ble_eq_true rfl) dX0_init_36 (fun z36 H hP hD hS => ?_)
  have hP : va_P D vwCl [(h0, .inr (0, [.int 0, .ref z12, .ref z20, .ref z28, .null, .null])), (z12, .inl (cI, 12, .inl (fun _ => 0))), (z20, .inl (cI, 12, .inl (fun _ => 0))), (z28, .inl (cI, 12, .inl (fun _ => 0))), (z36, .inl (cI, 12, .inl (fun _ => 0)))] H := hP
  have hD : va_D A [(h0, .inr (0, [.int 0, .ref z12, .ref z20, .ref z28, .null, .null])), (z12, .inl (cI, 12, .inl (fun _ => 0))), (z20, .inl (cI, 12, .inl (fun _ => 0))), (z28, .inl (cI, 12, .inl (fun _ => 0))), (z36, .inl (cI, 12, .inl (fun _ => 0)))] := hD
  refine W.widen (k := 4) (n := 48) (by omega) (by omega) ?_
  refine va_putF (ci := 0) (v := .ref z36) (ty := .array .int) (C := RX0) (T := TX0) (N := 6) hx hb hts hin0 tyX0 tyX0_ok nmX0 hown hK hP hD hS 0 rfl rfl 4 (by decide) (hts (.fieldLink RX0 25 "FilmBench$Layers" "bs" "[I") (by decide +kernel)) (fun _ h => h) rfl hin rfl (by decide +kernel) rfl rfl (Nat.le_of_ble_eq_true rfl) dX0_init_38 (fun H locs hP hD hS => ?_)
  have hP : va_P D vwCl [(h0, .inr (0, [.int 0, .ref z12, .ref z20, .ref z28, .ref z36, .null])), (z12, .inl (cI, 12, .inl (fun _ => 0))), (z20, .inl (cI, 12, .inl (fun _ => 0))), (z28, .inl (cI, 12, .inl (fun _ => 0))), (z36, .inl (cI, 12, .inl (fun _ => 0)))] H := hP
  have hD : va_D A [(h0, .inr (0, [.int 0, .ref z12, .ref z20, .ref z28, .ref z36, .null])), (z12, .inl (cI, 12, .inl (fun _ => 0))), (z20, .inl (cI, 12, .inl (fun _ => 0))), (z28, .inl (cI, 12, .inl (fun _ => 0))), (z36, .inl (cI, 12, .inl (fun _ => 0)))] := hD
  refine lv_aload_n hx hb dX0_init_41 rfl (lv_at hl 0 rfl) ?_
  refine lv_bipush (v := (12 : Int32)) hx hb dX0_init_42 (by decide) ?_
  refine gnewZ (N := 12) hx hb (hts (.arrayClass .boolean) (by decide +kernel)) hK hP hD hS hA (by decide) (by decide) (by decide) (Nat.le_of_ble_eq_true rfl) (Nat.le_of_ble_eq_true rfl) dX0_init_44 (fun z44 H hP hD hS => ?_)
  have hP : va_P D vwCl [(h0, .inr (0, [.int 0, .ref z12, .ref z20, .ref z28, .ref z36, .null])), (z12, .inl (cI, 12, .inl (fun _ => 0))), (z20, .inl (cI, 12, .inl (fun _ => 0))), (z28, .inl (cI, 12, .inl (fun _ => 0))), (z36, .inl (cI, 12, .inl (fun _ => 0))), (z44, .inl (cZ, 12, .inl (fun _ => 0)))] H := hP
  have hD : va_D A [(h0, .inr (0, [.int 0, .ref z12, .ref z20, .ref z28, .ref z36, .null])), (z12, .inl (cI, 12, .inl (fun _ => 0))), (z20, .inl (cI, 12, .inl (fun _ => 0))), (z28, .inl (cI, 12, .inl (fun _ => 0))), (z36, .inl (cI, 12, .inl (fun _ => 0))), (z44, .inl (cZ, 12, .inl (fun _ => 0)))] := hD
  refine W.widen (k := 5) (n := 60) (by omega) (by omega) ?_
  refine va_putF (ci := 0) (v := .ref z44) (ty := .array .boolean) (C := RX0) (T := TX0) (N := 6) hx hb hts hin0 tyX0 tyX0_ok nmX0 hown hK hP hD hS 0 rfl rfl 5 (by decide) (hts (.fieldLink RX0 28 "FilmBench$Layers" "ons" "[Z") (by decide +kernel)) (fun _ h => h) rfl hin rfl (by decide +kernel) rfl rfl (Nat.le_of_ble_eq_true rfl) dX0_init_46 (fun H locs hP hD hS => ?_)
  have hP : va_P D vwCl [(h0, .inr (0, [.int 0, .ref z12, .ref z20, .ref z28, .ref z36, .ref z44])), (z12, .inl (cI, 12, .inl (fun _ => 0))), (z20, .inl (cI, 12, .inl (fun _ => 0))), (z28, .inl (cI, 12, .inl (fun _ => 0))), (z36, .inl (cI, 12, .inl (fun _ => 0))), (z44, .inl (cZ, 12, .inl (fun _ => 0)))] H := hP
  have hD : va_D A [(h0, .inr (0, [.int 0, .ref z12, .ref z20, .ref z28, .ref z36, .ref z44])), (z12, .inl (cI, 12, .inl (fun _ => 0))), (z20, .inl (cI, 12, .inl (fun _ => 0))), (z28, .inl (cI, 12, .inl (fun _ => 0))), (z36, .inl (cI, 12, .inl (fun _ => 0))), (z44, .inl (cZ, 12, .inl (fun _ => 0)))] := hD
  exact W.vret hx hb hr (fun t ht hW => ⟨⟨([(h0, .inr (0, [.int 0, .ref z12, .ref z20, .ref z28, .ref z36, .ref z44])), (z12, .inl (cI, 12, .inl (fun _ => 0))), (z20, .inl (cI, 12, .inl (fun _ => 0))), (z28, .inl (cI, 12, .inl (fun _ => 0))), (z36, .inl (cI, 12, .inl (fun _ => 0))), (z44, .inl (cZ, 12, .inl (fun _ => 0)))] : va_W), rfl, ⟨z12, z20, z28, z36, z44, rfl⟩, by rw [ht]; exact hP, va_K.moved hW.alike hK, hD⟩, hS.F ht⟩) hS.2.2 dX0_init_49 hlocks
set_option maxHeartbeats 4000000 in
set_option maxRecDepth 100000 in
theorem c_X3_init (l : Launch) (D : va_G) (cI cZ : ClassId) (h0 rf : Nat) : gC l yX3_init wsX3_init { frames := 1, cells := 0, slots := 0, locals := 30 } D cI cZ gX [.ref h0, .ref rf] [(h0, .inr (3, [.null, .int 0, .int 0, .int 0, .int 0, .int 0, .int 0]))] (fun w => w = [(h0, .inr (3, [.ref rf, .int 0, .int 0, .int 0, .int 0, .int 0, .int 0]))]) 0 0 := by
  intro sz
  refine Met.ofW (cc := cX3_init) (maxL := 2) (ret := none) (by decide) rfl ?_
  intro p e s m args below meth c s₁ B hml hv
  obtain ⟨rfl, hsz, hP, hK, hD0, hE⟩ := hv
  have hx := B.exec
  have hb := B.bytes
  have hr := B.returns
  have hts := atoms_spec (ws := wsX3_init) B.pre
  have hown : s.vm.findClass RX3 = some m.cls := findClass_of_methodNamed B.named
  have hlocks := B.notSynchronized
  have hin : meth.name = "<init>" := (name_of_methodNamed B.named B.method).1
  subst hsz
  have hD := hD0.self (sz := s.heap.size)
  have hin3 : ∀ w ∈ wsX30, w ∈ wsX3_init := by decide +kernel
  generalize hAe : va_A [(h0, .inr (3, [.null, .int 0, .int 0, .int 0, .int 0, .int 0, .int 0]))] s.heap.size = A at hD ⊢
  have hA : ∀ q : Nat, s.heap.size ≤ q → A q := fun q h => by rw [← hAe]; exact Or.inr h
  have hS : va_S A s.heap s.heap [] := va_S.rf
  have hP : va_P D vwCl [(h0, .inr (3, [.null, .int 0, .int 0, .int 0, .int 0, .int 0, .int 0]))] s.heap := hP
  have hl := lv_entry ([.ref h0, .ref rf]) (n := 2) (Nat.le_of_ble_eq_true rfl)
  rw [lg_entry_eq]
  generalize (lg_sl ([.ref h0, .ref rf]) ++ List.replicate (2 - (lg_sl ([.ref h0, .ref rf])).length) Slot.unset).toArray = ls at hl ⊢
  have hl : lv_has ls 2 [(0, .ref h0), (1, .ref rf)] := hl
  refine lv_aload_n hx hb dX3_init_0 rfl (lv_at hl 0 rfl) ?_
  refine W.objInit hx hb hown (hts (.methodLink RX3 3 objectInit) (by decide +kernel)) (hts (.instanceMethod objectInit) (by decide +kernel)) (hts _ (List.mem_of_getElem? (i := 3) rfl)) rfl (by rw [hml]; exact hl.1) rfl dX3_init_1 (Nat.le_of_ble_eq_true rfl) (Nat.le_of_ble_eq_true rfl) ?_
  refine W.eq (g2 := F0 m 4 ls []) rfl ?_
  refine lv_aload_n hx hb dX3_init_4 rfl (lv_at hl 0 rfl) ?_
  refine lv_aload_n hx hb dX3_init_5 rfl (lv_at hl 1 rfl) ?_
  refine va_putF (ci := 3) (v := .ref rf) (ty := .object "FilmBench$Reel") (C := RX3) (T := TX3) (N := 7) hx hb hts hin3 tyX3 tyX3_ok nmX3 hown hK hP hD hS 0 rfl rfl 0 (by decide) (hts (.fieldLink RX3 9 "FilmBench$Shifts" "film" "LFilmBench$Reel;") (by decide +kernel)) (fun _ h => h) rfl hin rfl (by decide +kernel) rfl rfl (Nat.le_of_ble_eq_true rfl) dX3_init_6 (fun H locs hP hD hS => ?_)
  have hP : va_P D vwCl [(h0, .inr (3, [.ref rf, .int 0, .int 0, .int 0, .int 0, .int 0, .int 0]))] H := hP
  have hD : va_D A [(h0, .inr (3, [.ref rf, .int 0, .int 0, .int 0, .int 0, .int 0, .int 0]))] := hD
  exact W.vret hx hb hr (fun t ht hW => ⟨⟨([(h0, .inr (3, [.ref rf, .int 0, .int 0, .int 0, .int 0, .int 0, .int 0]))] : va_W), rfl, rfl, by rw [ht]; exact hP, va_K.moved hW.alike hK, hD⟩, hS.F ht⟩) hS.2.2 dX3_init_9 hlocks
set_option maxHeartbeats 4000000 in
set_option maxRecDepth 100000 in
theorem c_X4_init (l : Launch) (D : va_G) (cI cZ : ClassId) (h0 : Nat) : gC l yX4_init wsX4_init { frames := 1, cells := 3, slots := 510, locals := 30 } D cI cZ gX [.ref h0] [(h0, .inr (4, [.null, .null, .null, .int 0, .int 0, .int 0]))] (fun w => ∃ (z7 z15 z24 : Nat), w = [(h0, .inr (4, [.ref z7, .ref z15, .ref z24, .int 0, .int 0, .int 0])), (z7, .inl (cI, 10, .inl (fun _ => 0))), (z15, .inl (cI, 10, .inl (fun _ => 0))), (z24, .inl (cI, 490, .inl (fun _ => 0)))]) 3 510 := by
  intro sz
  refine Met.ofW (cc := cX4_init) (maxL := 1) (ret := none) (by decide) rfl ?_
  intro p e s m args below meth c s₁ B hml hv
  obtain ⟨rfl, hsz, hP, hK, hD0, hE⟩ := hv
  have hx := B.exec
  have hb := B.bytes
  have hr := B.returns
  have hts := atoms_spec (ws := wsX4_init) B.pre
  have hown : s.vm.findClass RX4 = some m.cls := findClass_of_methodNamed B.named
  have hlocks := B.notSynchronized
  have hin : meth.name = "<init>" := (name_of_methodNamed B.named B.method).1
  subst hsz
  have hD := hD0.self (sz := s.heap.size)
  have hin4 : ∀ w ∈ wsX40, w ∈ wsX4_init := by decide +kernel
  generalize hAe : va_A [(h0, .inr (4, [.null, .null, .null, .int 0, .int 0, .int 0]))] s.heap.size = A at hD ⊢
  have hA : ∀ q : Nat, s.heap.size ≤ q → A q := fun q h => by rw [← hAe]; exact Or.inr h
  have hS : va_S A s.heap s.heap [] := va_S.rf
  have hP : va_P D vwCl [(h0, .inr (4, [.null, .null, .null, .int 0, .int 0, .int 0]))] s.heap := hP
  have hl := lv_entry ([.ref h0]) (n := 1) (Nat.le_of_ble_eq_true rfl)
  rw [lg_entry_eq]
  generalize (lg_sl ([.ref h0]) ++ List.replicate (1 - (lg_sl ([.ref h0])).length) Slot.unset).toArray = ls at hl ⊢
  have hl : lv_has ls 1 [(0, .ref h0)] := hl
  refine lv_aload_n hx hb dX4_init_0 rfl (lv_at hl 0 rfl) ?_
  refine W.objInit hx hb hown (hts (.methodLink RX4 5 objectInit) (by decide +kernel)) (hts (.instanceMethod objectInit) (by decide +kernel)) (hts _ (List.mem_of_getElem? (i := 3) rfl)) rfl (by rw [hml]; exact hl.1) rfl dX4_init_1 (Nat.le_of_ble_eq_true rfl) (Nat.le_of_ble_eq_true rfl) ?_
  refine W.eq (g2 := F0 m 4 ls []) rfl ?_
  refine lv_aload_n hx hb dX4_init_4 rfl (lv_at hl 0 rfl) ?_
  refine lv_bipush (v := (10 : Int32)) hx hb dX4_init_5 (by decide) ?_
  refine gnewI (N := 10) hx hb (hts (.arrayClass .int) (by decide +kernel)) hK hP hD hS hA (by decide) (by decide) (by decide) (Nat.le_of_ble_eq_true rfl) (Nat.le_of_ble_eq_true rfl) dX4_init_7 (fun z7 H hP hD hS => ?_)
  have hP : va_P D vwCl [(h0, .inr (4, [.null, .null, .null, .int 0, .int 0, .int 0])), (z7, .inl (cI, 10, .inl (fun _ => 0)))] H := hP
  have hD : va_D A [(h0, .inr (4, [.null, .null, .null, .int 0, .int 0, .int 0])), (z7, .inl (cI, 10, .inl (fun _ => 0)))] := hD
  refine W.widen (k := 1) (n := 10) (by omega) (by omega) ?_
  refine va_putF (ci := 4) (v := .ref z7) (ty := .array .int) (C := RX4) (T := TX4) (N := 6) hx hb hts hin4 tyX4 tyX4_ok nmX4 hown hK hP hD hS 0 rfl rfl 0 (by decide) (hts (.fieldLink RX4 11 "FilmBench$Steady" "drifts" "[I") (by decide +kernel)) (fun _ h => h) rfl hin rfl (by decide +kernel) rfl rfl (Nat.le_of_ble_eq_true rfl) dX4_init_9 (fun H locs hP hD hS => ?_)
  have hP : va_P D vwCl [(h0, .inr (4, [.ref z7, .null, .null, .int 0, .int 0, .int 0])), (z7, .inl (cI, 10, .inl (fun _ => 0)))] H := hP
  have hD : va_D A [(h0, .inr (4, [.ref z7, .null, .null, .int 0, .int 0, .int 0])), (z7, .inl (cI, 10, .inl (fun _ => 0)))] := hD
  refine lv_aload_n hx hb dX4_init_12 rfl (lv_at hl 0 rfl) ?_
  refine lv_bipush (v := (10 : Int32)) hx hb dX4_init_13 (by decide) ?_
  refine gnewI (N := 10) hx hb (hts (.arrayClass .int) (by decide +kernel)) hK hP hD hS hA (by decide) (by decide) (by decide) (Nat.le_of_ble_eq_true rfl) (Nat.le_of_ble_eq_true rfl) dX4_init_15 (fun z15 H hP hD hS => ?_)
  have hP : va_P D vwCl [(h0, .inr (4, [.ref z7, .null, .null, .int 0, .int 0, .int 0])), (z7, .inl (cI, 10, .inl (fun _ => 0))), (z15, .inl (cI, 10, .inl (fun _ => 0)))] H := hP
  have hD : va_D A [(h0, .inr (4, [.ref z7, .null, .null, .int 0, .int 0, .int 0])), (z7, .inl (cI, 10, .inl (fun _ => 0))), (z15, .inl (cI, 10, .inl (fun _ => 0)))] := hD
  refine W.widen (k := 2) (n := 20) (by omega) (by omega) ?_
  refine va_putF (ci := 4) (v := .ref z15) (ty := .array .int) (C := RX4) (T := TX4) (N := 6) hx hb hts hin4 tyX4 tyX4_ok nmX4 hown hK hP hD hS 0 rfl rfl 1 (by decide) (hts (.fieldLink RX4 15 "FilmBench$Steady" "spots" "[I") (by decide +kernel)) (fun _ h => h) rfl hin rfl (by decide +kernel) rfl rfl (Nat.le_of_ble_eq_true rfl) dX4_init_17 (fun H locs hP hD hS => ?_)
  have hP : va_P D vwCl [(h0, .inr (4, [.ref z7, .ref z15, .null, .int 0, .int 0, .int 0])), (z7, .inl (cI, 10, .inl (fun _ => 0))), (z15, .inl (cI, 10, .inl (fun _ => 0)))] H := hP
  have hD : va_D A [(h0, .inr (4, [.ref z7, .ref z15, .null, .int 0, .int 0, .int 0])), (z7, .inl (cI, 10, .inl (fun _ => 0))), (z15, .inl (cI, 10, .inl (fun _ => 0)))] := hD
  refine lv_aload_n hx hb dX4_init_20 rfl (lv_at hl 0 rfl) ?_
  refine lv_sipush (v := (490 : Int32)) hx hb dX4_init_21 (by decide) ?_
  refine gnewI (N := 490) hx hb (hts (.arrayClass .int) (by decide +kernel)) hK hP hD hS hA (by decide) (by decide) (by decide) (Nat.le_of_ble_eq_true rfl) (Nat.le_of_ble_eq_true rfl) dX4_init_24 (fun z24 H hP hD hS => ?_)
  have hP : va_P D vwCl [(h0, .inr (4, [.ref z7, .ref z15, .null, .int 0, .int 0, .int 0])), (z7, .inl (cI, 10, .inl (fun _ => 0))), (z15, .inl (cI, 10, .inl (fun _ => 0))), (z24, .inl (cI, 490, .inl (fun _ => 0)))] H := hP
  have hD : va_D A [(h0, .inr (4, [.ref z7, .ref z15, .null, .int 0, .int 0, .int 0])), (z7, .inl (cI, 10, .inl (fun _ => 0))), (z15, .inl (cI, 10, .inl (fun _ => 0))), (z24, .inl (cI, 490, .inl (fun _ => 0)))] := hD
  refine W.widen (k := 3) (n := 510) (by omega) (by omega) ?_
  refine va_putF (ci := 4) (v := .ref z24) (ty := .array .int) (C := RX4) (T := TX4) (N := 6) hx hb hts hin4 tyX4 tyX4_ok nmX4 hown hK hP hD hS 0 rfl rfl 2 (by decide) (hts (.fieldLink RX4 18 "FilmBench$Steady" "costsBehind" "[I") (by decide +kernel)) (fun _ h => h) rfl hin rfl (by decide +kernel) rfl rfl (Nat.le_of_ble_eq_true rfl) dX4_init_26 (fun H locs hP hD hS => ?_)
  have hP : va_P D vwCl [(h0, .inr (4, [.ref z7, .ref z15, .ref z24, .int 0, .int 0, .int 0])), (z7, .inl (cI, 10, .inl (fun _ => 0))), (z15, .inl (cI, 10, .inl (fun _ => 0))), (z24, .inl (cI, 490, .inl (fun _ => 0)))] H := hP
  have hD : va_D A [(h0, .inr (4, [.ref z7, .ref z15, .ref z24, .int 0, .int 0, .int 0])), (z7, .inl (cI, 10, .inl (fun _ => 0))), (z15, .inl (cI, 10, .inl (fun _ => 0))), (z24, .inl (cI, 490, .inl (fun _ => 0)))] := hD
  exact W.vret hx hb hr (fun t ht hW => ⟨⟨([(h0, .inr (4, [.ref z7, .ref z15, .ref z24, .int 0, .int 0, .int 0])), (z7, .inl (cI, 10, .inl (fun _ => 0))), (z15, .inl (cI, 10, .inl (fun _ => 0))), (z24, .inl (cI, 490, .inl (fun _ => 0)))] : va_W), rfl, ⟨z7, z15, z24, rfl⟩, by rw [ht]; exact hP, va_K.moved hW.alike hK, hD⟩, hS.F ht⟩) hS.2.2 dX4_init_29 hlocks
set_option maxHeartbeats 4000000 in
set_option maxRecDepth 100000 in
theorem c_X2_init (l : Launch) (D : va_G) (cI cZ : ClassId) (h0 rf rl rr : Nat) : gC l yX2_init wsX2_init { frames := 1, cells := 3, slots := 108, locals := 30 } D cI cZ gX [.ref h0, .ref rf, .ref rl, .ref rr] [(h0, .inr (2, [.null, .null, .null, .null, .null, .null]))] (fun w => ∃ (z22 z30 z38 : Nat), w = [(h0, .inr (2, [.ref rf, .ref rl, .ref rr, .ref z22, .ref z30, .ref z38])), (z22, .inl (cI, 36, .inl (fun _ => 0))), (z30, .inl (cI, 36, .inl (fun _ => 0))), (z38, .inl (cI, 36, .inl (fun _ => 0)))]) 3 108 := by
  intro sz
  refine Met.ofW (cc := cX2_init) (maxL := 4) (ret := none) (by decide) rfl ?_
  intro p e s m args below meth c s₁ B hml hv
  obtain ⟨rfl, hsz, hP, hK, hD0, hE⟩ := hv
  have hx := B.exec
  have hb := B.bytes
  have hr := B.returns
  have hts := atoms_spec (ws := wsX2_init) B.pre
  have hown : s.vm.findClass RX2 = some m.cls := findClass_of_methodNamed B.named
  have hlocks := B.notSynchronized
  have hin : meth.name = "<init>" := (name_of_methodNamed B.named B.method).1
  subst hsz
  have hD := hD0.self (sz := s.heap.size)
  have hin2 : ∀ w ∈ wsX20, w ∈ wsX2_init := by decide +kernel
  generalize hAe : va_A [(h0, .inr (2, [.null, .null, .null, .null, .null, .null]))] s.heap.size = A at hD ⊢
  have hA : ∀ q : Nat, s.heap.size ≤ q → A q := fun q h => by rw [← hAe]; exact Or.inr h
  have hS : va_S A s.heap s.heap [] := va_S.rf
  have hP : va_P D vwCl [(h0, .inr (2, [.null, .null, .null, .null, .null, .null]))] s.heap := hP
  have hl := lv_entry ([.ref h0, .ref rf, .ref rl, .ref rr]) (n := 4) (Nat.le_of_ble_eq_true rfl)
  rw [lg_entry_eq]
  generalize (lg_sl ([.ref h0, .ref rf, .ref rl, .ref rr]) ++ List.replicate (4 - (lg_sl ([.ref h0, .ref rf, .ref rl, .ref rr])).length) Slot.unset).toArray = ls at hl ⊢
  have hl : lv_has ls 4 [(0, .ref h0), (1, .ref rf), (2, .ref rl), (3, .ref rr)] := hl
  refine lv_aload_n hx hb dX2_init_0 rfl (lv_at hl 0 rfl) ?_
  refine W.objInit hx hb hown (hts (.methodLink RX2 3 objectInit) (by decide +kernel)) (hts (.instanceMethod objectInit) (by decide +kernel)) (hts _ (List.mem_of_getElem? (i := 3) rfl)) rfl (by rw [hml]; exact hl.1) rfl dX2_init_1 (Nat.le_of_ble_eq_true rfl) (Nat.le_of_ble_eq_true rfl) ?_
  refine W.eq (g2 := F0 m 4 ls []) rfl ?_
  refine lv_aload_n hx hb dX2_init_4 rfl (lv_at hl 0 rfl) ?_
  refine lv_aload_n hx hb dX2_init_5 rfl (lv_at hl 1 rfl) ?_
  refine va_putF (ci := 2) (v := .ref rf) (ty := .object "FilmBench$Reel") (C := RX2) (T := TX2) (N := 6) hx hb hts hin2 tyX2 tyX2_ok nmX2 hown hK hP hD hS 0 rfl rfl 0 (by decide) (hts (.fieldLink RX2 9 "FilmBench$Sheet" "film" "LFilmBench$Reel;") (by decide +kernel)) (fun _ h => h) rfl hin rfl (by decide +kernel) rfl rfl (Nat.le_of_ble_eq_true rfl) dX2_init_6 (fun H locs hP hD hS => ?_)
  have hP : va_P D vwCl [(h0, .inr (2, [.ref rf, .null, .null, .null, .null, .null]))] H := hP
  have hD : va_D A [(h0, .inr (2, [.ref rf, .null, .null, .null, .null, .null]))] := hD
  refine lv_aload_n hx hb dX2_init_9 rfl (lv_at hl 0 rfl) ?_
  refine lv_aload_n hx hb dX2_init_10 rfl (lv_at hl 2 rfl) ?_
  refine va_putF (ci := 2) (v := .ref rl) (ty := .object "FilmBench$Layers") (C := RX2) (T := TX2) (N := 6) hx hb hts hin2 tyX2 tyX2_ok nmX2 hown hK hP hD hS 0 rfl rfl 1 (by decide) (hts (.fieldLink RX2 15 "FilmBench$Sheet" "layers" "LFilmBench$Layers;") (by decide +kernel)) (fun _ h => h) rfl hin rfl (by decide +kernel) rfl rfl (Nat.le_of_ble_eq_true rfl) dX2_init_11 (fun H locs hP hD hS => ?_)
  have hP : va_P D vwCl [(h0, .inr (2, [.ref rf, .ref rl, .null, .null, .null, .null]))] H := hP
  have hD : va_D A [(h0, .inr (2, [.ref rf, .ref rl, .null, .null, .null, .null]))] := hD
  refine lv_aload_n hx hb dX2_init_14 rfl (lv_at hl 0 rfl) ?_
  refine lv_aload_n hx hb dX2_init_15 rfl (lv_at hl 3 rfl) ?_
  refine va_putF (ci := 2) (v := .ref rr) (ty := .array .int) (C := RX2) (T := TX2) (N := 6) hx hb hts hin2 tyX2 tyX2_ok nmX2 hown hK hP hD hS 0 rfl rfl 2 (by decide) (hts (.fieldLink RX2 19 "FilmBench$Sheet" "rules" "[I") (by decide +kernel)) (fun _ h => h) rfl hin rfl (by decide +kernel) rfl rfl (Nat.le_of_ble_eq_true rfl) dX2_init_16 (fun H locs hP hD hS => ?_)
  have hP : va_P D vwCl [(h0, .inr (2, [.ref rf, .ref rl, .ref rr, .null, .null, .null]))] H := hP
  have hD : va_D A [(h0, .inr (2, [.ref rf, .ref rl, .ref rr, .null, .null, .null]))] := hD
  refine lv_aload_n hx hb dX2_init_19 rfl (lv_at hl 0 rfl) ?_
  refine lv_bipush (v := (36 : Int32)) hx hb dX2_init_20 (by decide) ?_
  refine gnewI (N := 36) hx hb (hts (.arrayClass .int) (by decide +kernel)) hK hP hD hS hA (by decide) (by decide) (by decide) (Nat.le_of_ble_eq_true rfl) (Nat.le_of_ble_eq_true rfl) dX2_init_22 (fun z22 H hP hD hS => ?_)
  have hP : va_P D vwCl [(h0, .inr (2, [.ref rf, .ref rl, .ref rr, .null, .null, .null])), (z22, .inl (cI, 36, .inl (fun _ => 0)))] H := hP
  have hD : va_D A [(h0, .inr (2, [.ref rf, .ref rl, .ref rr, .null, .null, .null])), (z22, .inl (cI, 36, .inl (fun _ => 0)))] := hD
  refine W.widen (k := 1) (n := 36) (by omega) (by omega) ?_
  refine va_putF (ci := 2) (v := .ref z22) (ty := .array .int) (C := RX2) (T := TX2) (N := 6) hx hb hts hin2 tyX2 tyX2_ok nmX2 hown hK hP hD hS 0 rfl rfl 3 (by decide) (hts (.fieldLink RX2 23 "FilmBench$Sheet" "now" "[I") (by decide +kernel)) (fun _ h => h) rfl hin rfl (by decide +kernel) rfl rfl (Nat.le_of_ble_eq_true rfl) dX2_init_24 (fun H locs hP hD hS => ?_)
  have hP : va_P D vwCl [(h0, .inr (2, [.ref rf, .ref rl, .ref rr, .ref z22, .null, .null])), (z22, .inl (cI, 36, .inl (fun _ => 0)))] H := hP
  have hD : va_D A [(h0, .inr (2, [.ref rf, .ref rl, .ref rr, .ref z22, .null, .null])), (z22, .inl (cI, 36, .inl (fun _ => 0)))] := hD
  refine lv_aload_n hx hb dX2_init_27 rfl (lv_at hl 0 rfl) ?_
  refine lv_bipush (v := (36 : Int32)) hx hb dX2_init_28 (by decide) ?_
  refine gnewI (N := 36) hx hb (hts (.arrayClass .int) (by decide +kernel)) hK hP hD hS hA (by decide) (by decide) (by decide) (Nat.le_of_ble_eq_true rfl) (Nat.le_of_ble_eq_true rfl) dX2_init_30 (fun z30 H hP hD hS => ?_)
  have hP : va_P D vwCl [(h0, .inr (2, [.ref rf, .ref rl, .ref rr, .ref z22, .null, .null])), (z22, .inl (cI, 36, .inl (fun _ => 0))), (z30, .inl (cI, 36, .inl (fun _ => 0)))] H := hP
  have hD : va_D A [(h0, .inr (2, [.ref rf, .ref rl, .ref rr, .ref z22, .null, .null])), (z22, .inl (cI, 36, .inl (fun _ => 0))), (z30, .inl (cI, 36, .inl (fun _ => 0)))] := hD
  refine W.widen (k := 2) (n := 72) (by omega) (by omega) ?_
  refine va_putF (ci := 2) (v := .ref z30) (ty := .array .int) (C := RX2) (T := TX2) (N := 6) hx hb hts hin2 tyX2 tyX2_ok nmX2 hown hK hP hD hS 0 rfl rfl 4 (by decide) (hts (.fieldLink RX2 26 "FilmBench$Sheet" "before" "[I") (by decide +kernel)) (fun _ h => h) rfl hin rfl (by decide +kernel) rfl rfl (Nat.le_of_ble_eq_true rfl) dX2_init_32 (fun H locs hP hD hS => ?_)
  have hP : va_P D vwCl [(h0, .inr (2, [.ref rf, .ref rl, .ref rr, .ref z22, .ref z30, .null])), (z22, .inl (cI, 36, .inl (fun _ => 0))), (z30, .inl (cI, 36, .inl (fun _ => 0)))] H := hP
  have hD : va_D A [(h0, .inr (2, [.ref rf, .ref rl, .ref rr, .ref z22, .ref z30, .null])), (z22, .inl (cI, 36, .inl (fun _ => 0))), (z30, .inl (cI, 36, .inl (fun _ => 0)))] := hD
  refine lv_aload_n hx hb dX2_init_35 rfl (lv_at hl 0 rfl) ?_
  refine lv_bipush (v := (36 : Int32)) hx hb dX2_init_36 (by decide) ?_
  refine gnewI (N := 36) hx hb (hts (.arrayClass .int) (by decide +kernel)) hK hP hD hS hA (by decide) (by decide) (by decide) (Nat.le_of_ble_eq_true rfl) (Nat.le_of_ble_eq_true rfl) dX2_init_38 (fun z38 H hP hD hS => ?_)
  have hP : va_P D vwCl [(h0, .inr (2, [.ref rf, .ref rl, .ref rr, .ref z22, .ref z30, .null])), (z22, .inl (cI, 36, .inl (fun _ => 0))), (z30, .inl (cI, 36, .inl (fun _ => 0))), (z38, .inl (cI, 36, .inl (fun _ => 0)))] H := hP
  have hD : va_D A [(h0, .inr (2, [.ref rf, .ref rl, .ref rr, .ref z22, .ref z30, .null])), (z22, .inl (cI, 36, .inl (fun _ => 0))), (z30, .inl (cI, 36, .inl (fun _ => 0))), (z38, .inl (cI, 36, .inl (fun _ => 0)))] := hD
  refine W.widen (k := 3) (n := 108) (by omega) (by omega) ?_
  refine va_putF (ci := 2) (v := .ref z38) (ty := .array .int) (C := RX2) (T := TX2) (N := 6) hx hb hts hin2 tyX2 tyX2_ok nmX2 hown hK hP hD hS 0 rfl rfl 5 (by decide) (hts (.fieldLink RX2 29 "FilmBench$Sheet" "rising" "[I") (by decide +kernel)) (fun _ h => h) rfl hin rfl (by decide +kernel) rfl rfl (Nat.le_of_ble_eq_true rfl) dX2_init_40 (fun H locs hP hD hS => ?_)
  have hP : va_P D vwCl [(h0, .inr (2, [.ref rf, .ref rl, .ref rr, .ref z22, .ref z30, .ref z38])), (z22, .inl (cI, 36, .inl (fun _ => 0))), (z30, .inl (cI, 36, .inl (fun _ => 0))), (z38, .inl (cI, 36, .inl (fun _ => 0)))] H := hP
  have hD : va_D A [(h0, .inr (2, [.ref rf, .ref rl, .ref rr, .ref z22, .ref z30, .ref z38])), (z22, .inl (cI, 36, .inl (fun _ => 0))), (z30, .inl (cI, 36, .inl (fun _ => 0))), (z38, .inl (cI, 36, .inl (fun _ => 0)))] := hD
  exact W.vret hx hb hr (fun t ht hW => ⟨⟨([(h0, .inr (2, [.ref rf, .ref rl, .ref rr, .ref z22, .ref z30, .ref z38])), (z22, .inl (cI, 36, .inl (fun _ => 0))), (z30, .inl (cI, 36, .inl (fun _ => 0))), (z38, .inl (cI, 36, .inl (fun _ => 0)))] : va_W), rfl, ⟨z22, z30, z38, rfl⟩, by rw [ht]; exact hP, va_K.moved hW.alike hK, hD⟩, hS.F ht⟩) hS.2.2 dX2_init_43 hlocks
def uF0 : US := (fun k => ([0, 2, 2, 4, 0, 0, 0, 0, 0, 0, 0, 0, 0, 0, 0, 2, 2, 4, 0, 0] : List Int32).getD k 0, fun k => if k = 9 then va_cpy tbF (fun _ => 0) 0 0 3 else fun _ => 0)
