set_option maxRecDepth 100000 in
set_option maxHeartbeats 4000000 in
theorem c_X0_copyFrom_3 (l : Launch) (D : va_G) (cI cZ : ClassId) (adr : Nat → Nat) (A : Nat → Prop) (hD : ∀ u, va_D A (fw adr cI cZ u))  (u : US) (post : US → Prop) (h : wp_X0_copyFrom_3  u post) : gMv l yX0_copyFrom wsX0_copyFrom 0 D cI cZ (fw adr cI cZ) A [.ref (adr 3), .ref (adr 21)] u post := by
  refine Met.ofW (cc := cX0_copyFrom) (maxL := 3) (ret := none) (by decide) rfl ?_
  intro p e s m args below meth c s₁ B hml hv
  obtain ⟨rfl, hP, hK⟩ := hv
  have hx := B.exec
  have hb := B.bytes
  have hr := B.returns
  have hts := atoms_spec (ws := wsX0_copyFrom) B.pre
  have hown : s.vm.findClass RX0 = some m.cls := findClass_of_methodNamed B.named
  have hlocks := B.notSynchronized
  have hinX0 : ∀ w ∈ wsX00, w ∈ wsX0_copyFrom := by decide +kernel
  have hS : va_S A s.heap s.heap [] := va_S.rf
  have L10 : ∀ (n : Nat), ∀ (x2 : Int32) (u : US) (H : Heap) (locs : List Loc) (ls : Array Slot), lv_has ls 3 [(0, .ref (adr 3)), (1, .ref (adr 21)), (2, .int x2)] → va_P D vwCl (fw adr cI cZ u) H → va_S A s.heap H locs → wp_X0_copyFrom_3_10  post n x2 u → gWv p l e wsX0_copyFrom 0 s m [.ref (adr 3), .ref (adr 21)] below meth c D cI cZ (fw adr cI cZ) A post H locs (F0 m 10 ls []) := by
    intro  n
    induction n with
    | zero => intro x2 u H locs ls hl hP hS h; exact False.elim h
    | succ n ih =>
      intro x2 u H locs ls hl hP hS h
      refine lv_iload_n hx hb dX0_copyFrom_10 rfl (lv_at hl 2 rfl) ?_
      refine lv_bipush (v := (12 : Int32)) hx hb dX0_copyFrom_11 (by decide) ?_
      refine lv_icmp_ge (tgt := 82) hx hb dX0_copyFrom_13 (by decide) (fun hc => ?_) (fun hc => ?_)
      · have h := h.1 hc
        exact gvret hx hb hr hlocks hK hP hS h dX0_copyFrom_82
      · have h := h.2 hc
        refine lv_aload_n hx hb dX0_copyFrom_16 rfl (lv_at hl 0 rfl) ?_
        refine fwg_3_1 hx hb hts hinX0 hown hK hP (hts (.fieldLink RX0 15 "FilmBench$Layers" "kinds" "[I") (by decide +kernel)) dX0_copyFrom_17 ?_
        refine lv_iload_n hx hb dX0_copyFrom_20 rfl (lv_at hl 2 rfl) ?_
        refine lv_aload_n hx hb dX0_copyFrom_21 rfl (lv_at hl 1 rfl) ?_
        refine fwg_21_1 hx hb hts hinX0 hown hK hP (hts (.fieldLink RX0 15 "FilmBench$Layers" "kinds" "[I") (by decide +kernel)) dX0_copyFrom_22 ?_
        refine lv_iload_n hx hb dX0_copyFrom_25 rfl (lv_at hl 2 rfl) ?_
        refine fwl_22 (v := ((u.2 22) x2.toNatClampNeg)) hx hb hK hP h.1 dX0_copyFrom_26 rfl ?_
        have h := h.2
        refine fws_4 hx hb hK hP (hD _) hS h.1 dX0_copyFrom_27 (fun H locs hP hS => ?_)
        have h := h.2
        refine lv_aload_n hx hb dX0_copyFrom_28 rfl (lv_at hl 0 rfl) ?_
        refine fwg_3_2 hx hb hts hinX0 hown hK hP (hts (.fieldLink RX0 19 "FilmBench$Layers" "owners" "[I") (by decide +kernel)) dX0_copyFrom_29 ?_
        refine lv_iload_n hx hb dX0_copyFrom_32 rfl (lv_at hl 2 rfl) ?_
        refine lv_aload_n hx hb dX0_copyFrom_33 rfl (lv_at hl 1 rfl) ?_
        refine fwg_21_2 hx hb hts hinX0 hown hK hP (hts (.fieldLink RX0 19 "FilmBench$Layers" "owners" "[I") (by decide +kernel)) dX0_copyFrom_34 ?_
        refine lv_iload_n hx hb dX0_copyFrom_37 rfl (lv_at hl 2 rfl) ?_
        refine fwl_23 (v := ((u.2 23) x2.toNatClampNeg)) hx hb hK hP h.1 dX0_copyFrom_38 rfl ?_
        have h := h.2
        refine fws_5 hx hb hK hP (hD _) hS h.1 dX0_copyFrom_39 (fun H locs hP hS => ?_)
        have h := h.2
        refine lv_aload_n hx hb dX0_copyFrom_40 rfl (lv_at hl 0 rfl) ?_
        refine fwg_3_3 hx hb hts hinX0 hown hK hP (hts (.fieldLink RX0 22 "FilmBench$Layers" "as" "[I") (by decide +kernel)) dX0_copyFrom_41 ?_
        refine lv_iload_n hx hb dX0_copyFrom_44 rfl (lv_at hl 2 rfl) ?_
        refine lv_aload_n hx hb dX0_copyFrom_45 rfl (lv_at hl 1 rfl) ?_
        refine fwg_21_3 hx hb hts hinX0 hown hK hP (hts (.fieldLink RX0 22 "FilmBench$Layers" "as" "[I") (by decide +kernel)) dX0_copyFrom_46 ?_
        refine lv_iload_n hx hb dX0_copyFrom_49 rfl (lv_at hl 2 rfl) ?_
        refine fwl_24 (v := ((u.2 24) x2.toNatClampNeg)) hx hb hK hP h.1 dX0_copyFrom_50 rfl ?_
        have h := h.2
        refine fws_6 hx hb hK hP (hD _) hS h.1 dX0_copyFrom_51 (fun H locs hP hS => ?_)
        have h := h.2
        refine lv_aload_n hx hb dX0_copyFrom_52 rfl (lv_at hl 0 rfl) ?_
        refine fwg_3_4 hx hb hts hinX0 hown hK hP (hts (.fieldLink RX0 25 "FilmBench$Layers" "bs" "[I") (by decide +kernel)) dX0_copyFrom_53 ?_
        refine lv_iload_n hx hb dX0_copyFrom_56 rfl (lv_at hl 2 rfl) ?_
        refine lv_aload_n hx hb dX0_copyFrom_57 rfl (lv_at hl 1 rfl) ?_
        refine fwg_21_4 hx hb hts hinX0 hown hK hP (hts (.fieldLink RX0 25 "FilmBench$Layers" "bs" "[I") (by decide +kernel)) dX0_copyFrom_58 ?_
        refine lv_iload_n hx hb dX0_copyFrom_61 rfl (lv_at hl 2 rfl) ?_
        refine fwl_25 (v := ((u.2 25) x2.toNatClampNeg)) hx hb hK hP h.1 dX0_copyFrom_62 rfl ?_
        have h := h.2
        refine fws_7 hx hb hK hP (hD _) hS h.1 dX0_copyFrom_63 (fun H locs hP hS => ?_)
        have h := h.2
        refine lv_aload_n hx hb dX0_copyFrom_64 rfl (lv_at hl 0 rfl) ?_
        refine fwg_3_5 hx hb hts hinX0 hown hK hP (hts (.fieldLink RX0 28 "FilmBench$Layers" "ons" "[Z") (by decide +kernel)) dX0_copyFrom_65 ?_
        refine lv_iload_n hx hb dX0_copyFrom_68 rfl (lv_at hl 2 rfl) ?_
        refine lv_aload_n hx hb dX0_copyFrom_69 rfl (lv_at hl 1 rfl) ?_
        refine fwg_21_5 hx hb hts hinX0 hown hK hP (hts (.fieldLink RX0 28 "FilmBench$Layers" "ons" "[Z") (by decide +kernel)) dX0_copyFrom_70 ?_
        refine lv_iload_n hx hb dX0_copyFrom_73 rfl (lv_at hl 2 rfl) ?_
        refine fwl_26 (v := ((u.2 26) x2.toNatClampNeg)) hx hb hK hP h.1 dX0_copyFrom_74 rfl ?_
        have h := h.2
        refine fws_8 hx hb hK hP (hD _) hS h.1 dX0_copyFrom_75 (fun H locs hP hS => ?_)
        have h := h.2
        refine lv_iinc (v := (x2 + 1)) (lv' := [(2, .int (x2 + 1)), (0, .ref (adr 3)), (1, .ref (adr 21))]) hx hb dX0_copyFrom_76 hl (k := 2) rfl (congrArg (HAdd.hAdd _) (show Int32.ofInt (1) = (1 : Int32) by decide)) (by decide) rfl (fun ls hl => ?_)
        refine lv_goto (tgt := 10) hx hb dX0_copyFrom_79 (by decide) ?_
        exact ih (x2 + 1) (sA (sA (sA (sA (sA u 4 (upd (u.2 4) x2.toNatClampNeg ((u.2 22) x2.toNatClampNeg))) 5 (upd (u.2 5) x2.toNatClampNeg ((u.2 23) x2.toNatClampNeg))) 6 (upd (u.2 6) x2.toNatClampNeg ((u.2 24) x2.toNatClampNeg))) 7 (upd (u.2 7) x2.toNatClampNeg ((u.2 25) x2.toNatClampNeg))) 8 (upd (u.2 8) x2.toNatClampNeg (vp_nar .boolean ((u.2 26) x2.toNatClampNeg)))) _ _ _ (lv_sub hl [1, 2, 0] rfl) hP hS h
  have hl := lv_entry ([.ref (adr 3), .ref (adr 21)]) (n := 3) (Nat.le_of_ble_eq_true rfl)
  rw [lg_entry_eq]
  generalize (lg_sl ([.ref (adr 3), .ref (adr 21)]) ++ List.replicate (3 - (lg_sl ([.ref (adr 3), .ref (adr 21)])).length) Slot.unset).toArray = ls at hl ⊢
  replace hl : lv_has ls 3 [(0, .ref (adr 3)), (1, .ref (adr 21))] := hl
  refine lv_aload_n hx hb dX0_copyFrom_0 rfl (lv_at hl 0 rfl) ?_
  refine lv_aload_n hx hb dX0_copyFrom_1 rfl (lv_at hl 1 rfl) ?_
  refine fwg_21_0 (v := (u.1 19)) hx hb hts hinX0 hown hK hP (hts (.fieldLink RX0 9 "FilmBench$Layers" "count" "I") (by decide +kernel)) dX0_copyFrom_2 rfl ?_
  refine fwp_3_0 (v := (u.1 19)) hx hb hts hinX0 hown hK hP (hD _) hS (hts (.fieldLink RX0 9 "FilmBench$Layers" "count" "I") (by decide +kernel)) dX0_copyFrom_5 (fun H locs hP hS => ?_)
  refine lv_iconst (v := (0 : Int32)) hx hb dX0_copyFrom_8 (by decide) ?_
  refine lv_istore_n (lv' := [(2, .int (0 : Int32)), (0, .ref (adr 3)), (1, .ref (adr 21))]) hx hb dX0_copyFrom_9 rfl hl (by decide) rfl (fun ls hl => ?_)
  obtain ⟨n, h⟩ := h
  exact L10  n (0 : Int32) (si u 5 (u.1 19)) _ _ _ (lv_sub hl [1, 2, 0] rfl) hP hS h
set_option maxRecDepth 100000 in
set_option maxHeartbeats 4000000 in
theorem c_X5_keep (l : Launch) (D : va_G) (cI cZ : ClassId) (adr : Nat → Nat) (A : Nat → Prop) (hD : ∀ u, va_D A (fw adr cI cZ u))  (u : US) (post : Int32 → US → Prop) (h : wp_X5_keep  u post) : gMi l yX5_keep wsX5_keep 2 D cI cZ (fw adr cI cZ) A [.ref (adr 0)] u post := by
  refine Met.ofW (cc := cX5_keep) (maxL := 1) (ret := (some .int)) (by decide) rfl ?_
  intro p e s m args below meth c s₁ B hml hv
  obtain ⟨rfl, hP, hK⟩ := hv
  have hx := B.exec
  have hb := B.bytes
  have hr := B.returns
  have hts := atoms_spec (ws := wsX5_keep) B.pre
  have hown : s.vm.findClass RX5 = some m.cls := findClass_of_methodNamed B.named
  have hlocks := B.notSynchronized
  have hinX5 : ∀ w ∈ wsX50, w ∈ wsX5_keep := by decide +kernel
  have hS : va_S A s.heap s.heap [] := va_S.rf
  have hl := lv_entry ([.ref (adr 0)]) (n := 1) (Nat.le_of_ble_eq_true rfl)
  rw [lg_entry_eq]
  generalize (lg_sl ([.ref (adr 0)]) ++ List.replicate (1 - (lg_sl ([.ref (adr 0)])).length) Slot.unset).toArray = ls at hl ⊢
  replace hl : lv_has ls 1 [(0, .ref (adr 0))] := hl
  refine lv_aload_n hx hb dX5_keep_0 rfl (lv_at hl 0 rfl) ?_
  refine fwg_0_6 hx hb hts hinX5 hown hK hP (hts (.fieldLink RX5 61 "FilmBench" "keptFilm" "LFilmBench$Reel;") (by decide +kernel)) dX5_keep_1 ?_
  refine lv_aload_n hx hb dX5_keep_4 rfl (lv_at hl 0 rfl) ?_
  refine fwg_0_0 hx hb hts hinX5 hown hK hP (hts (.fieldLink RX5 12 "FilmBench" "film" "LFilmBench$Reel;") (by decide +kernel)) dX5_keep_5 ?_
  refine gcallVv (As := [.ref (adr 1)]) (rest := []) ⟨hx, hb, hml, hown, hts⟩ (c_X1_copyFrom_19 l D cI cZ adr A hD u _ h) (cwV 1 hts gX5_keep_X1_copyFrom rfl rfl rfl (by decide +kernel) ⟨Nat.le_of_ble_eq_true rfl, Nat.le_of_ble_eq_true rfl⟩) (va_recv hK hP (ci := 1) (q0 := 19) rfl rfl) hK hP hS rfl hl.1 rfl (Nat.le_of_ble_eq_true rfl) dX5_keep_8 ⟨Nat.le_refl _, Nat.le_refl _⟩ (fun u8 H locs h hP hS => ?_)
  refine lv_aload_n hx hb dX5_keep_11 rfl (lv_at hl 0 rfl) ?_
  refine fwg_0_7 hx hb hts hinX5 hown hK hP (hts (.fieldLink RX5 64 "FilmBench" "keptLayers" "LFilmBench$Layers;") (by decide +kernel)) dX5_keep_12 ?_
  refine lv_aload_n hx hb dX5_keep_15 rfl (lv_at hl 0 rfl) ?_
  refine fwg_0_1 hx hb hts hinX5 hown hK hP (hts (.fieldLink RX5 19 "FilmBench" "layers" "LFilmBench$Layers;") (by decide +kernel)) dX5_keep_16 ?_
  refine gcallVv (As := [.ref (adr 3)]) (rest := []) ⟨hx, hb, hml, hown, hts⟩ (c_X0_copyFrom_21 l D cI cZ adr A hD u8 _ h) (cwV 1 hts gX5_keep_X0_copyFrom rfl rfl rfl (by decide +kernel) ⟨Nat.le_of_ble_eq_true rfl, Nat.le_of_ble_eq_true rfl⟩) (va_recv hK hP (ci := 0) (q0 := 21) rfl rfl) hK hP hS rfl hl.1 rfl (Nat.le_of_ble_eq_true rfl) dX5_keep_19 ⟨Nat.le_refl _, Nat.le_refl _⟩ (fun u19 H locs h hP hS => ?_)
  refine lv_aload_n hx hb dX5_keep_22 rfl (lv_at hl 0 rfl) ?_
  refine lv_iconst (v := (1 : Int32)) hx hb dX5_keep_23 (by decide) ?_
  refine fwp_0_8 (v := (1 : Int32)) hx hb hts hinX5 hown hK hP (hD _) hS (hts (.fieldLink RX5 67 "FilmBench" "isKept" "Z") (by decide +kernel)) (by decide) dX5_keep_24 (fun H locs hP hS => ?_)
  refine lv_iconst (v := (1 : Int32)) hx hb dX5_keep_27 (by decide) ?_
  exact giret hx hb hr hlocks hK hP hS h dX5_keep_28
set_option maxRecDepth 100000 in
set_option maxHeartbeats 4000000 in
theorem c_X5_back (l : Launch) (D : va_G) (cI cZ : ClassId) (adr : Nat → Nat) (A : Nat → Prop) (hD : ∀ u, va_D A (fw adr cI cZ u))  (u : US) (post : Int32 → US → Prop) (h : wp_X5_back  u post) : gMi l yX5_back wsX5_back 2 D cI cZ (fw adr cI cZ) A [.ref (adr 0)] u post := by
  refine Met.ofW (cc := cX5_back) (maxL := 1) (ret := (some .int)) (by decide) rfl ?_
  intro p e s m args below meth c s₁ B hml hv
  obtain ⟨rfl, hP, hK⟩ := hv
  have hx := B.exec
  have hb := B.bytes
  have hr := B.returns
  have hts := atoms_spec (ws := wsX5_back) B.pre
  have hown : s.vm.findClass RX5 = some m.cls := findClass_of_methodNamed B.named
  have hlocks := B.notSynchronized
  have hinX5 : ∀ w ∈ wsX50, w ∈ wsX5_back := by decide +kernel
  have hS : va_S A s.heap s.heap [] := va_S.rf
  have hl := lv_entry ([.ref (adr 0)]) (n := 1) (Nat.le_of_ble_eq_true rfl)
  rw [lg_entry_eq]
  generalize (lg_sl ([.ref (adr 0)]) ++ List.replicate (1 - (lg_sl ([.ref (adr 0)])).length) Slot.unset).toArray = ls at hl ⊢
  replace hl : lv_has ls 1 [(0, .ref (adr 0))] := hl
  refine lv_aload_n hx hb dX5_back_0 rfl (lv_at hl 0 rfl) ?_
  refine fwg_0_8 (v := (u.1 0)) hx hb hts hinX5 hown hK hP (hts (.fieldLink RX5 67 "FilmBench" "isKept" "Z") (by decide +kernel)) dX5_back_1 rfl ?_
  refine lv_if_ne (tgt := 10) hx hb dX5_back_4 (by decide) (fun hc => ?_) (fun hc => ?_)
  · have h := h.2 hc
    refine lv_aload_n hx hb dX5_back_10 rfl (lv_at hl 0 rfl) ?_
    refine fwg_0_0 hx hb hts hinX5 hown hK hP (hts (.fieldLink RX5 12 "FilmBench" "film" "LFilmBench$Reel;") (by decide +kernel)) dX5_back_11 ?_
    refine lv_aload_n hx hb dX5_back_14 rfl (lv_at hl 0 rfl) ?_
    refine fwg_0_6 hx hb hts hinX5 hown hK hP (hts (.fieldLink RX5 61 "FilmBench" "keptFilm" "LFilmBench$Reel;") (by decide +kernel)) dX5_back_15 ?_
    refine gcallVv (As := [.ref (adr 19)]) (rest := []) ⟨hx, hb, hml, hown, hts⟩ (c_X1_copyFrom_1 l D cI cZ adr A hD u _ h) (cwV 1 hts gX5_back_X1_copyFrom rfl rfl rfl (by decide +kernel) ⟨Nat.le_of_ble_eq_true rfl, Nat.le_of_ble_eq_true rfl⟩) (va_recv hK hP (ci := 1) (q0 := 1) rfl rfl) hK hP hS rfl hl.1 rfl (Nat.le_of_ble_eq_true rfl) dX5_back_18 ⟨Nat.le_refl _, Nat.le_refl _⟩ (fun u18 H locs h hP hS => ?_)
    refine lv_aload_n hx hb dX5_back_21 rfl (lv_at hl 0 rfl) ?_
    refine fwg_0_1 hx hb hts hinX5 hown hK hP (hts (.fieldLink RX5 19 "FilmBench" "layers" "LFilmBench$Layers;") (by decide +kernel)) dX5_back_22 ?_
    refine lv_aload_n hx hb dX5_back_25 rfl (lv_at hl 0 rfl) ?_
    refine fwg_0_7 hx hb hts hinX5 hown hK hP (hts (.fieldLink RX5 64 "FilmBench" "keptLayers" "LFilmBench$Layers;") (by decide +kernel)) dX5_back_26 ?_
    refine gcallVv (As := [.ref (adr 21)]) (rest := []) ⟨hx, hb, hml, hown, hts⟩ (c_X0_copyFrom_3 l D cI cZ adr A hD u18 _ h) (cwV 1 hts gX5_back_X0_copyFrom rfl rfl rfl (by decide +kernel) ⟨Nat.le_of_ble_eq_true rfl, Nat.le_of_ble_eq_true rfl⟩) (va_recv hK hP (ci := 0) (q0 := 3) rfl rfl) hK hP hS rfl hl.1 rfl (Nat.le_of_ble_eq_true rfl) dX5_back_29 ⟨Nat.le_refl _, Nat.le_refl _⟩ (fun u29 H locs h hP hS => ?_)
    refine lv_iconst (v := (1 : Int32)) hx hb dX5_back_32 (by decide) ?_
    exact giret hx hb hr hlocks hK hP hS h dX5_back_33
  · have h := h.1 hc
    refine lv_bipush (v := (-3 : Int32)) hx hb dX5_back_7 (by decide) ?_
    exact giret hx hb hr hlocks hK hP hS h dX5_back_9
