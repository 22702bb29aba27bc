set_option maxRecDepth 100000 in
set_option maxHeartbeats 4000000 in
theorem c_X5_isWithin (l : Launch) (D : va_G) (cI cZ : ClassId) (adr : Nat → Nat) (A : Nat → Prop) (hD : ∀ u, va_D A (fw adr cI cZ u)) (p0 : Int32) (p1 : Int32) (p2 : Int32) (u : US) (post : Int32 → US → Prop) (h : wp_X5_isWithin p0 p1 p2 u post) : gMi l yX5_isWithin wsX5_isWithin 0 D cI cZ (fw adr cI cZ) A [.int p0, .int p1, .int p2] u post := by
  refine Met.ofW (cc := cX5_isWithin) (maxL := 3) (ret := (some .boolean)) (by decide) rfl ?_
  intro p e s m args below meth c s₁ B hml hv
  obtain ⟨rfl, hP, hK⟩ := hv
  have hx := B.exec
  have hb := B.bytes
  have hr := B.returns
  have hts := atoms_spec (ws := wsX5_isWithin) B.pre
  have hown : s.vm.findClass RX5 = some m.cls := findClass_of_methodNamed B.named
  have hlocks := B.notSynchronized
  have hS : va_S A s.heap s.heap [] := va_S.rf
  have hl := lv_entry ([.int p0, .int p1, .int p2]) (n := 3) (Nat.le_of_ble_eq_true rfl)
  rw [lg_entry_eq]
  generalize (lg_sl ([.int p0, .int p1, .int p2]) ++ List.replicate (3 - (lg_sl ([.int p0, .int p1, .int p2])).length) Slot.unset).toArray = ls at hl ⊢
  replace hl : lv_has ls 3 [(0, .int p0), (1, .int p1), (2, .int p2)] := hl
  refine lv_iload_n hx hb dX5_isWithin_0 rfl (lv_at hl 0 rfl) ?_
  refine lv_iload_n hx hb dX5_isWithin_1 rfl (lv_at hl 1 rfl) ?_
  refine lv_icmp_lt (tgt := 14) hx hb dX5_isWithin_2 (by decide) (fun hc => ?_) (fun hc => ?_)
  · have h := h.1 hc
    refine lv_iconst (v := (0 : Int32)) hx hb dX5_isWithin_14 (by decide) ?_
    exact gzret hx hb hr hlocks hK hP hS rfl h dX5_isWithin_15
  · have h := h.2 hc
    refine lv_iload_n hx hb dX5_isWithin_5 rfl (lv_at hl 0 rfl) ?_
    refine lv_iload_n hx hb dX5_isWithin_6 rfl (lv_at hl 2 rfl) ?_
    refine lv_icmp_gt (tgt := 14) hx hb dX5_isWithin_7 (by decide) (fun hc => ?_) (fun hc => ?_)
    · have h := h.1 hc
      refine lv_iconst (v := (0 : Int32)) hx hb dX5_isWithin_14 (by decide) ?_
      exact gzret hx hb hr hlocks hK hP hS rfl h dX5_isWithin_15
    · have h := h.2 hc
      refine lv_iconst (v := (1 : Int32)) hx hb dX5_isWithin_10 (by decide) ?_
      refine lv_goto (tgt := 15) hx hb dX5_isWithin_11 (by decide) ?_
      exact gzret hx hb hr hlocks hK hP hS rfl h dX5_isWithin_15
set_option maxRecDepth 100000 in
set_option maxHeartbeats 4000000 in
theorem c_X1_start (l : Launch) (D : va_G) (cI cZ : ClassId) (adr : Nat → Nat) (A : Nat → Prop) (hD : ∀ u, va_D A (fw adr cI cZ u)) (p1 : Int32) (p2 : Int32) (u : US) (post : US → Prop) (h : wp_X1_start p1 p2 u post) : gMv l yX1_start wsX1_start 0 D cI cZ (fw adr cI cZ) A [.ref (adr 1), .int p1, .int p2] u post := by
  refine Met.ofW (cc := cX1_start) (maxL := 3) (ret := none) (by decide) rfl ?_
  intro p e s m args below meth c s₁ B hml hv
  obtain ⟨rfl, hP, hK⟩ := hv
  have hx := B.exec
  have hb := B.bytes
  have hr := B.returns
  have hts := atoms_spec (ws := wsX1_start) B.pre
  have hown : s.vm.findClass RX1 = some m.cls := findClass_of_methodNamed B.named
  have hlocks := B.notSynchronized
  have hinX1 : ∀ w ∈ wsX10, w ∈ wsX1_start := by decide +kernel
  have hS : va_S A s.heap s.heap [] := va_S.rf
  have hl := lv_entry ([.ref (adr 1), .int p1, .int p2]) (n := 3) (Nat.le_of_ble_eq_true rfl)
  rw [lg_entry_eq]
  generalize (lg_sl ([.ref (adr 1), .int p1, .int p2]) ++ List.replicate (3 - (lg_sl ([.ref (adr 1), .int p1, .int p2])).length) Slot.unset).toArray = ls at hl ⊢
  replace hl : lv_has ls 3 [(0, .ref (adr 1)), (1, .int p1), (2, .int p2)] := hl
  refine lv_aload_n hx hb dX1_start_0 rfl (lv_at hl 0 rfl) ?_
  refine lv_iload_n hx hb dX1_start_1 rfl (lv_at hl 1 rfl) ?_
  refine fwp_1_0 (v := p1) hx hb hts hinX1 hown hK hP (hD _) hS (hts (.fieldLink RX1 15 "FilmBench$Reel" "high" "I") (by decide +kernel)) dX1_start_2 (fun H locs hP hS => ?_)
  refine lv_aload_n hx hb dX1_start_5 rfl (lv_at hl 0 rfl) ?_
  refine lv_iload_n hx hb dX1_start_6 rfl (lv_at hl 2 rfl) ?_
  refine fwp_1_1 (v := p2) hx hb hts hinX1 hown hK hP (hD _) hS (hts (.fieldLink RX1 19 "FilmBench$Reel" "wide" "I") (by decide +kernel)) dX1_start_7 (fun H locs hP hS => ?_)
  refine lv_aload_n hx hb dX1_start_10 rfl (lv_at hl 0 rfl) ?_
  refine lv_iload_n hx hb dX1_start_11 rfl (lv_at hl 1 rfl) ?_
  refine lv_iload_n hx hb dX1_start_12 rfl (lv_at hl 2 rfl) ?_
  refine lv_imul hx hb dX1_start_13 ?_
  refine fwp_1_2 (v := (p1 * p2)) hx hb hts hinX1 hown hK hP (hD _) hS (hts (.fieldLink RX1 22 "FilmBench$Reel" "squares" "I") (by decide +kernel)) dX1_start_14 (fun H locs hP hS => ?_)
  refine lv_aload_n hx hb dX1_start_17 rfl (lv_at hl 0 rfl) ?_
  refine lv_iconst (v := (0 : Int32)) hx hb dX1_start_18 (by decide) ?_
  refine fwp_1_3 (v := (0 : Int32)) hx hb hts hinX1 hown hK hP (hD _) hS (hts (.fieldLink RX1 25 "FilmBench$Reel" "frames" "I") (by decide +kernel)) dX1_start_19 (fun H locs hP hS => ?_)
  exact gvret hx hb hr hlocks hK hP hS h dX1_start_22
set_option maxRecDepth 100000 in
set_option maxHeartbeats 4000000 in
theorem c_X5_reel (l : Launch) (D : va_G) (cI cZ : ClassId) (adr : Nat → Nat) (A : Nat → Prop) (hD : ∀ u, va_D A (fw adr cI cZ u)) (p1 : Int32) (p2 : Int32) (u : US) (post : Int32 → US → Prop) (h : wp_X5_reel p1 p2 u post) : gMi l yX5_reel wsX5_reel 1 D cI cZ (fw adr cI cZ) A [.ref (adr 0), .int p1, .int p2] u post := by
  refine Met.ofW (cc := cX5_reel) (maxL := 3) (ret := (some .int)) (by decide) rfl ?_
  intro p e s m args below meth c s₁ B hml hv
  obtain ⟨rfl, hP, hK⟩ := hv
  have hx := B.exec
  have hb := B.bytes
  have hr := B.returns
  have hts := atoms_spec (ws := wsX5_reel) B.pre
  have hown : s.vm.findClass RX5 = some m.cls := findClass_of_methodNamed B.named
  have hlocks := B.notSynchronized
  have hinX0 : ∀ w ∈ wsX00, w ∈ wsX5_reel := by decide +kernel
  have hinX1 : ∀ w ∈ wsX10, w ∈ wsX5_reel := by decide +kernel
  have hinX5 : ∀ w ∈ wsX50, w ∈ wsX5_reel := by decide +kernel
  have hS : va_S A s.heap s.heap [] := va_S.rf
  have hl := lv_entry ([.ref (adr 0), .int p1, .int p2]) (n := 3) (Nat.le_of_ble_eq_true rfl)
  rw [lg_entry_eq]
  generalize (lg_sl ([.ref (adr 0), .int p1, .int p2]) ++ List.replicate (3 - (lg_sl ([.ref (adr 0), .int p1, .int p2])).length) Slot.unset).toArray = ls at hl ⊢
  replace hl : lv_has ls 3 [(0, .ref (adr 0)), (1, .int p1), (2, .int p2)] := hl
  refine lv_iload_n hx hb dX5_reel_0 rfl (lv_at hl 1 rfl) ?_
  refine lv_iconst (v := (2 : Int32)) hx hb dX5_reel_1 (by decide) ?_
  refine lv_bipush (v := (6 : Int32)) hx hb dX5_reel_2 (by decide) ?_
  refine gcallSi (As := [.int p1, .int (2 : Int32), .int (6 : Int32)]) (rest := []) ⟨hx, hb, hml, hown, hts⟩ (c_X5_isWithin l D cI cZ adr A hD p1 (2 : Int32) (6 : Int32) u _ h) (va_cwS 3 hts gX5_reel_X5_isWithin rfl rfl rfl (by decide +kernel) ⟨Nat.le_of_ble_eq_true rfl, Nat.le_of_ble_eq_true rfl⟩) hK hP hS rfl hl.1 rfl (Nat.le_of_ble_eq_true rfl) dX5_reel_4 ⟨Nat.le_refl _, Nat.le_refl _⟩ (fun r4 u4 H locs h hP hS => ?_)
  refine lv_if_eq (tgt := 20) hx hb dX5_reel_7 (by decide) (fun hc => ?_) (fun hc => ?_)
  · have h := h.1 hc
    refine lv_iconst (v := (-1 : Int32)) hx hb dX5_reel_20 (by decide) ?_
    exact giret hx hb hr hlocks hK hP hS h dX5_reel_21
  · have h := h.2 hc
    refine lv_iload_n hx hb dX5_reel_10 rfl (lv_at hl 2 rfl) ?_
    refine lv_iconst (v := (2 : Int32)) hx hb dX5_reel_11 (by decide) ?_
    refine lv_bipush (v := (6 : Int32)) hx hb dX5_reel_12 (by decide) ?_
    refine gcallSi (As := [.int p2, .int (2 : Int32), .int (6 : Int32)]) (rest := []) ⟨hx, hb, hml, hown, hts⟩ (c_X5_isWithin l D cI cZ adr A hD p2 (2 : Int32) (6 : Int32) u4 _ h) (va_cwS 3 hts gX5_reel_X5_isWithin rfl rfl rfl (by decide +kernel) ⟨Nat.le_of_ble_eq_true rfl, Nat.le_of_ble_eq_true rfl⟩) hK hP hS rfl hl.1 rfl (Nat.le_of_ble_eq_true rfl) dX5_reel_14 ⟨Nat.le_refl _, Nat.le_refl _⟩ (fun r14 u14 H locs h hP hS => ?_)
    refine lv_if_ne (tgt := 22) hx hb dX5_reel_17 (by decide) (fun hc => ?_) (fun hc => ?_)
    · have h := h.2 hc
      refine lv_aload_n hx hb dX5_reel_22 rfl (lv_at hl 0 rfl) ?_
      refine fwg_0_0 hx hb hts hinX5 hown hK hP (hts (.fieldLink RX5 12 "FilmBench" "film" "LFilmBench$Reel;") (by decide +kernel)) dX5_reel_23 ?_
      refine lv_iload_n hx hb dX5_reel_26 rfl (lv_at hl 1 rfl) ?_
      refine lv_iload_n hx hb dX5_reel_27 rfl (lv_at hl 2 rfl) ?_
      refine gcallVv (As := [.int p1, .int p2]) (rest := []) ⟨hx, hb, hml, hown, hts⟩ (c_X1_start l D cI cZ adr A hD p1 p2 u14 _ h) (cwV 2 hts gX5_reel_X1_start rfl rfl rfl (by decide +kernel) ⟨Nat.le_of_ble_eq_true rfl, Nat.le_of_ble_eq_true rfl⟩) (va_recv hK hP (ci := 1) (q0 := 1) rfl rfl) hK hP hS rfl hl.1 rfl (Nat.le_of_ble_eq_true rfl) dX5_reel_28 ⟨Nat.le_refl _, Nat.le_refl _⟩ (fun u28 H locs h hP hS => ?_)
      refine lv_aload_n hx hb dX5_reel_31 rfl (lv_at hl 0 rfl) ?_
      refine fwg_0_1 hx hb hts hinX5 hown hK hP (hts (.fieldLink RX5 19 "FilmBench" "layers" "LFilmBench$Layers;") (by decide +kernel)) dX5_reel_32 ?_
      refine lv_iconst (v := (0 : Int32)) hx hb dX5_reel_35 (by decide) ?_
      refine fwp_3_0 (v := (0 : Int32)) hx hb hts hinX0 hown hK hP (hD _) hS (hts (.fieldLink RX5 79 "FilmBench$Layers" "count" "I") (by decide +kernel)) dX5_reel_36 (fun H locs hP hS => ?_)
      refine lv_aload_n hx hb dX5_reel_39 rfl (lv_at hl 0 rfl) ?_
      refine fwg_0_0 hx hb hts hinX5 hown hK hP (hts (.fieldLink RX5 12 "FilmBench" "film" "LFilmBench$Reel;") (by decide +kernel)) dX5_reel_40 ?_
      refine fwg_1_2 (v := (u28.1 3)) hx hb hts hinX1 hown hK hP (hts (.fieldLink RX5 83 "FilmBench$Reel" "squares" "I") (by decide +kernel)) dX5_reel_43 rfl ?_
      exact giret hx hb hr hlocks hK hP hS h dX5_reel_46
    · have h := h.1 hc
      refine lv_iconst (v := (-1 : Int32)) hx hb dX5_reel_20 (by decide) ?_
      exact giret hx hb hr hlocks hK hP hS h dX5_reel_21
set_option maxRecDepth 100000 in
set_option maxHeartbeats 4000000 in
theorem c_X1_hasFrame (l : Launch) (D : va_G) (cI cZ : ClassId) (adr : Nat → Nat) (A : Nat → Prop) (hD : ∀ u, va_D A (fw adr cI cZ u)) (p1 : Int32) (u : US) (post : Int32 → US → Prop) (h : wp_X1_hasFrame p1 u post) : gMi l yX1_hasFrame wsX1_hasFrame 0 D cI cZ (fw adr cI cZ) A [.ref (adr 1), .int p1] u post := by
  refine Met.ofW (cc := cX1_hasFrame) (maxL := 2) (ret := (some .boolean)) (by decide) rfl ?_
  intro p e s m args below meth c s₁ B hml hv
  obtain ⟨rfl, hP, hK⟩ := hv
  have hx := B.exec
  have hb := B.bytes
  have hr := B.returns
  have hts := atoms_spec (ws := wsX1_hasFrame) B.pre
  have hown : s.vm.findClass RX1 = some m.cls := findClass_of_methodNamed B.named
  have hlocks := B.notSynchronized
  have hinX1 : ∀ w ∈ wsX10, w ∈ wsX1_hasFrame := by decide +kernel
  have hS : va_S A s.heap s.heap [] := va_S.rf
  have hl := lv_entry ([.ref (adr 1), .int p1]) (n := 2) (Nat.le_of_ble_eq_true rfl)
  rw [lg_entry_eq]
  generalize (lg_sl ([.ref (adr 1), .int p1]) ++ List.replicate (2 - (lg_sl ([.ref (adr 1), .int p1])).length) Slot.unset).toArray = ls at hl ⊢
  replace hl : lv_has ls 2 [(0, .ref (adr 1)), (1, .int p1)] := hl
  refine lv_iload_n hx hb dX1_hasFrame_0 rfl (lv_at hl 1 rfl) ?_
  refine lv_if_lt (tgt := 16) hx hb dX1_hasFrame_1 (by decide) (fun hc => ?_) (fun hc => ?_)
  · have h := h.1 hc
    refine lv_iconst (v := (0 : Int32)) hx hb dX1_hasFrame_16 (by decide) ?_
    exact gzret hx hb hr hlocks hK hP hS rfl h dX1_hasFrame_17
  · have h := h.2 hc
    refine lv_iload_n hx hb dX1_hasFrame_4 rfl (lv_at hl 1 rfl) ?_
    refine lv_aload_n hx hb dX1_hasFrame_5 rfl (lv_at hl 0 rfl) ?_
    refine fwg_1_3 (v := (u.1 4)) hx hb hts hinX1 hown hK hP (hts (.fieldLink RX1 25 "FilmBench$Reel" "frames" "I") (by decide +kernel)) dX1_hasFrame_6 rfl ?_
    refine lv_icmp_ge (tgt := 16) hx hb dX1_hasFrame_9 (by decide) (fun hc => ?_) (fun hc => ?_)
    · have h := h.1 hc
      refine lv_iconst (v := (0 : Int32)) hx hb dX1_hasFrame_16 (by decide) ?_
      exact gzret hx hb hr hlocks hK hP hS rfl h dX1_hasFrame_17
    · have h := h.2 hc
      refine lv_iconst (v := (1 : Int32)) hx hb dX1_hasFrame_12 (by decide) ?_
      refine lv_goto (tgt := 17) hx hb dX1_hasFrame_13 (by decide) ?_
      exact gzret hx hb hr hlocks hK hP hS rfl h dX1_hasFrame_17
set_option maxRecDepth 100000 in
set_option maxHeartbeats 4000000 in
theorem c_X1_hasPlace (l : Launch) (D : va_G) (cI cZ : ClassId) (adr : Nat → Nat) (A : Nat → Prop) (hD : ∀ u, va_D A (fw adr cI cZ u)) (p1 : Int32) (u : US) (post : Int32 → US → Prop) (h : wp_X1_hasPlace p1 u post) : gMi l yX1_hasPlace wsX1_hasPlace 0 D cI cZ (fw adr cI cZ) A [.ref (adr 1), .int p1] u post := by
  refine Met.ofW (cc := cX1_hasPlace) (maxL := 2) (ret := (some .boolean)) (by decide) rfl ?_
  intro p e s m args below meth c s₁ B hml hv
  obtain ⟨rfl, hP, hK⟩ := hv
  have hx := B.exec
  have hb := B.bytes
  have hr := B.returns
  have hts := atoms_spec (ws := wsX1_hasPlace) B.pre
  have hown : s.vm.findClass RX1 = some m.cls := findClass_of_methodNamed B.named
  have hlocks := B.notSynchronized
  have hinX1 : ∀ w ∈ wsX10, w ∈ wsX1_hasPlace := by decide +kernel
  have hS : va_S A s.heap s.heap [] := va_S.rf
  have hl := lv_entry ([.ref (adr 1), .int p1]) (n := 2) (Nat.le_of_ble_eq_true rfl)
  rw [lg_entry_eq]
  generalize (lg_sl ([.ref (adr 1), .int p1]) ++ List.replicate (2 - (lg_sl ([.ref (adr 1), .int p1])).length) Slot.unset).toArray = ls at hl ⊢
  replace hl : lv_has ls 2 [(0, .ref (adr 1)), (1, .int p1)] := hl
  refine lv_iload_n hx hb dX1_hasPlace_0 rfl (lv_at hl 1 rfl) ?_
  refine lv_if_lt (tgt := 16) hx hb dX1_hasPlace_1 (by decide) (fun hc => ?_) (fun hc => ?_)
  · have h := h.1 hc
    refine lv_iconst (v := (0 : Int32)) hx hb dX1_hasPlace_16 (by decide) ?_
    exact gzret hx hb hr hlocks hK hP hS rfl h dX1_hasPlace_17
  · have h := h.2 hc
    refine lv_iload_n hx hb dX1_hasPlace_4 rfl (lv_at hl 1 rfl) ?_
    refine lv_aload_n hx hb dX1_hasPlace_5 rfl (lv_at hl 0 rfl) ?_
    refine fwg_1_2 (v := (u.1 3)) hx hb hts hinX1 hown hK hP (hts (.fieldLink RX1 22 "FilmBench$Reel" "squares" "I") (by decide +kernel)) dX1_hasPlace_6 rfl ?_
    refine lv_icmp_ge (tgt := 16) hx hb dX1_hasPlace_9 (by decide) (fun hc => ?_) (fun hc => ?_)
    · have h := h.1 hc
      refine lv_iconst (v := (0 : Int32)) hx hb dX1_hasPlace_16 (by decide) ?_
      exact gzret hx hb hr hlocks hK hP hS rfl h dX1_hasPlace_17
    · have h := h.2 hc
      refine lv_iconst (v := (1 : Int32)) hx hb dX1_hasPlace_12 (by decide) ?_
      refine lv_goto (tgt := 17) hx hb dX1_hasPlace_13 (by decide) ?_
      exact gzret hx hb hr hlocks hK hP hS rfl h dX1_hasPlace_17
set_option maxRecDepth 100000 in
set_option maxHeartbeats 4000000 in
theorem c_X1_setGrey (l : Launch) (D : va_G) (cI cZ : ClassId) (adr : Nat → Nat) (A : Nat → Prop) (hD : ∀ u, va_D A (fw adr cI cZ u)) (p1 : Int32) (p2 : Int32) (p3 : Int32) (u : US) (post : US → Prop) (h : wp_X1_setGrey p1 p2 p3 u post) : gMv l yX1_setGrey wsX1_setGrey 1 D cI cZ (fw adr cI cZ) A [.ref (adr 1), .int p1, .int p2, .int p3] u post := by
  refine Met.ofW (cc := cX1_setGrey) (maxL := 4) (ret := none) (by decide) rfl ?_
  intro p e s m args below meth c s₁ B hml hv
  obtain ⟨rfl, hP, hK⟩ := hv
  have hx := B.exec
  have hb := B.bytes
  have hr := B.returns
  have hts := atoms_spec (ws := wsX1_setGrey) B.pre
  have hown : s.vm.findClass RX1 = some m.cls := findClass_of_methodNamed B.named
  have hlocks := B.notSynchronized
  have hinX1 : ∀ w ∈ wsX10, w ∈ wsX1_setGrey := by decide +kernel
  have hS : va_S A s.heap s.heap [] := va_S.rf
  have hl := lv_entry ([.ref (adr 1), .int p1, .int p2, .int p3]) (n := 4) (Nat.le_of_ble_eq_true rfl)
  rw [lg_entry_eq]
  generalize (lg_sl ([.ref (adr 1), .int p1, .int p2, .int p3]) ++ List.replicate (4 - (lg_sl ([.ref (adr 1), .int p1, .int p2, .int p3])).length) Slot.unset).toArray = ls at hl ⊢
  replace hl : lv_has ls 4 [(0, .ref (adr 1)), (1, .int p1), (2, .int p2), (3, .int p3)] := hl
  refine lv_aload_n hx hb dX1_setGrey_0 rfl (lv_at hl 0 rfl) ?_
  refine lv_iload_n hx hb dX1_setGrey_1 rfl (lv_at hl 1 rfl) ?_
  refine gcallVi (As := [.int p1]) (rest := []) ⟨hx, hb, hml, hown, hts⟩ (c_X1_hasFrame l D cI cZ adr A hD p1 u _ h) (cwV 1 hts gX1_setGrey_X1_hasFrame rfl rfl rfl (by decide +kernel) ⟨Nat.le_of_ble_eq_true rfl, Nat.le_of_ble_eq_true rfl⟩) (va_recv hK hP (ci := 1) (q0 := 1) rfl rfl) hK hP hS rfl hl.1 rfl (Nat.le_of_ble_eq_true rfl) dX1_setGrey_2 ⟨Nat.le_refl _, Nat.le_refl _⟩ (fun r2 u2 H locs h hP hS => ?_)
  refine lv_if_eq (tgt := 28) hx hb dX1_setGrey_5 (by decide) (fun hc => ?_) (fun hc => ?_)
  · have h := h.1 hc
    exact gvret hx hb hr hlocks hK hP hS h dX1_setGrey_28
  · have h := h.2 hc
    refine lv_aload_n hx hb dX1_setGrey_8 rfl (lv_at hl 0 rfl) ?_
    refine lv_iload_n hx hb dX1_setGrey_9 rfl (lv_at hl 2 rfl) ?_
    refine gcallVi (As := [.int p2]) (rest := []) ⟨hx, hb, hml, hown, hts⟩ (c_X1_hasPlace l D cI cZ adr A hD p2 u2 _ h) (cwV 1 hts gX1_setGrey_X1_hasPlace rfl rfl rfl (by decide +kernel) ⟨Nat.le_of_ble_eq_true rfl, Nat.le_of_ble_eq_true rfl⟩) (va_recv hK hP (ci := 1) (q0 := 1) rfl rfl) hK hP hS rfl hl.1 rfl (Nat.le_of_ble_eq_true rfl) dX1_setGrey_10 ⟨Nat.le_refl _, Nat.le_refl _⟩ (fun r10 u10 H locs h hP hS => ?_)
    refine lv_if_eq (tgt := 28) hx hb dX1_setGrey_13 (by decide) (fun hc => ?_) (fun hc => ?_)
    · have h := h.1 hc
      exact gvret hx hb hr hlocks hK hP hS h dX1_setGrey_28
    · have h := h.2 hc
      refine lv_aload_n hx hb dX1_setGrey_16 rfl (lv_at hl 0 rfl) ?_
      refine fwg_1_4 hx hb hts hinX1 hown hK hP (hts (.fieldLink RX1 9 "FilmBench$Reel" "greys" "[I") (by decide +kernel)) dX1_setGrey_17 ?_
      refine lv_iload_n hx hb dX1_setGrey_20 rfl (lv_at hl 1 rfl) ?_
      refine lv_bipush (v := (36 : Int32)) hx hb dX1_setGrey_21 (by decide) ?_
      refine lv_imul hx hb dX1_setGrey_23 ?_
      refine lv_iload_n hx hb dX1_setGrey_24 rfl (lv_at hl 2 rfl) ?_
      refine lv_iadd hx hb dX1_setGrey_25 ?_
      refine lv_iload_n hx hb dX1_setGrey_26 rfl (lv_at hl 3 rfl) ?_
      refine fws_2 hx hb hK hP (hD _) hS h.1 dX1_setGrey_27 (fun H locs hP hS => ?_)
      have h := h.2
      exact gvret hx hb hr hlocks hK hP hS h dX1_setGrey_28
set_option maxRecDepth 100000 in
set_option maxHeartbeats 4000000 in
theorem c_X1_addFrame (l : Launch) (D : va_G) (cI cZ : ClassId) (adr : Nat → Nat) (A : Nat → Prop) (hD : ∀ u, va_D A (fw adr cI cZ u))  (u : US) (post : Int32 → US → Prop) (h : wp_X1_addFrame  u post) : gMi l yX1_addFrame wsX1_addFrame 2 D cI cZ (fw adr cI cZ) A [.ref (adr 1)] u post := by
  refine Met.ofW (cc := cX1_addFrame) (maxL := 3) (ret := (some .int)) (by decide) rfl ?_
  intro p e s m args below meth c s₁ B hml hv
  obtain ⟨rfl, hP, hK⟩ := hv
  have hx := B.exec
  have hb := B.bytes
  have hr := B.returns
  have hts := atoms_spec (ws := wsX1_addFrame) B.pre
  have hown : s.vm.findClass RX1 = some m.cls := findClass_of_methodNamed B.named
  have hlocks := B.notSynchronized
  have hinX1 : ∀ w ∈ wsX10, w ∈ wsX1_addFrame := by decide +kernel
  have hS : va_S A s.heap s.heap [] := va_S.rf
  have L17 : ∀ (n : Nat), ∀ (x1 : Int32) (x2 : Int32) (u : US) (H : Heap) (locs : List Loc) (ls : Array Slot), lv_has ls 3 [(0, .ref (adr 1)), (1, .int x1), (2, .int x2)] → va_P D vwCl (fw adr cI cZ u) H → va_S A s.heap H locs → wp_X1_addFrame_17  post n x1 x2 u → gWi p l e wsX1_addFrame 2 s m [.ref (adr 1)] below meth c D cI cZ (fw adr cI cZ) A post H locs (F0 m 17 ls []) := by
    intro  n
    induction n with
    | zero => intro x1 x2 u H locs ls hl hP hS h; exact False.elim h
    | succ n ih =>
      intro x1 x2 u H locs ls hl hP hS h
      refine lv_iload_n hx hb dX1_addFrame_17 rfl (lv_at hl 2 rfl) ?_
      refine lv_aload_n hx hb dX1_addFrame_18 rfl (lv_at hl 0 rfl) ?_
      refine fwg_1_2 (v := (u.1 3)) hx hb hts hinX1 hown hK hP (hts (.fieldLink RX1 22 "FilmBench$Reel" "squares" "I") (by decide +kernel)) dX1_addFrame_19 rfl ?_
      refine lv_icmp_ge (tgt := 38) hx hb dX1_addFrame_22 (by decide) (fun hc => ?_) (fun hc => ?_)
      · have h := h.1 hc
        refine lv_iload_n hx hb dX1_addFrame_38 rfl (lv_at hl 1 rfl) ?_
        exact giret hx hb hr hlocks hK hP hS h dX1_addFrame_39
      · have h := h.2 hc
        refine lv_aload_n hx hb dX1_addFrame_25 rfl (lv_at hl 0 rfl) ?_
        refine lv_iload_n hx hb dX1_addFrame_26 rfl (lv_at hl 1 rfl) ?_
        refine lv_iload_n hx hb dX1_addFrame_27 rfl (lv_at hl 2 rfl) ?_
        refine lv_iconst (v := (-1 : Int32)) hx hb dX1_addFrame_28 (by decide) ?_
        refine gcallVv (As := [.int x1, .int x2, .int (-1 : Int32)]) (rest := []) ⟨hx, hb, hml, hown, hts⟩ (c_X1_setGrey l D cI cZ adr A hD x1 x2 (-1 : Int32) u _ h) (cwV 3 hts gX1_addFrame_X1_setGrey rfl rfl rfl (by decide +kernel) ⟨Nat.le_of_ble_eq_true rfl, Nat.le_of_ble_eq_true rfl⟩) (va_recv hK hP (ci := 1) (q0 := 1) rfl rfl) hK hP hS rfl hl.1 rfl (Nat.le_of_ble_eq_true rfl) dX1_addFrame_29 ⟨Nat.le_refl _, Nat.le_refl _⟩ (fun u29 H locs h hP hS => ?_)
        refine lv_iinc (v := (x2 + 1)) (lv' := [(2, .int (x2 + 1)), (0, .ref (adr 1)), (1, .int x1)]) hx hb dX1_addFrame_32 hl (k := 2) rfl (congrArg (HAdd.hAdd _) (show Int32.ofInt (1) = (1 : Int32) by decide)) (by decide) rfl (fun ls hl => ?_)
        refine lv_goto (tgt := 17) hx hb dX1_addFrame_35 (by decide) ?_
        exact ih x1 (x2 + 1) u29 _ _ _ (lv_sub hl [1, 2, 0] rfl) hP hS h
  have hl := lv_entry ([.ref (adr 1)]) (n := 3) (Nat.le_of_ble_eq_true rfl)
  rw [lg_entry_eq]
  generalize (lg_sl ([.ref (adr 1)]) ++ List.replicate (3 - (lg_sl ([.ref (adr 1)])).length) Slot.unset).toArray = ls at hl ⊢
  replace hl : lv_has ls 3 [(0, .ref (adr 1))] := hl
  refine lv_aload_n hx hb dX1_addFrame_0 rfl (lv_at hl 0 rfl) ?_
  refine fwg_1_3 (v := (u.1 4)) hx hb hts hinX1 hown hK hP (hts (.fieldLink RX1 25 "FilmBench$Reel" "frames" "I") (by decide +kernel)) dX1_addFrame_1 rfl ?_
  refine lv_istore_n (lv' := [(1, .int (u.1 4)), (0, .ref (adr 1))]) hx hb dX1_addFrame_4 rfl hl (by decide) rfl (fun ls hl => ?_)
  refine lv_aload_n hx hb dX1_addFrame_5 rfl (lv_at hl 1 rfl) ?_
  refine lv_dup hx hb dX1_addFrame_6 rfl ?_
  refine fwg_1_3 (v := (u.1 4)) hx hb hts hinX1 hown hK hP (hts (.fieldLink RX1 25 "FilmBench$Reel" "frames" "I") (by decide +kernel)) dX1_addFrame_7 rfl ?_
  refine lv_iconst (v := (1 : Int32)) hx hb dX1_addFrame_10 (by decide) ?_
  refine lv_iadd hx hb dX1_addFrame_11 ?_
  refine fwp_1_3 (v := ((u.1 4) + (1 : Int32))) hx hb hts hinX1 hown hK hP (hD _) hS (hts (.fieldLink RX1 25 "FilmBench$Reel" "frames" "I") (by decide +kernel)) dX1_addFrame_12 (fun H locs hP hS => ?_)
  refine lv_iconst (v := (0 : Int32)) hx hb dX1_addFrame_15 (by decide) ?_
  refine lv_istore_n (lv' := [(2, .int (0 : Int32)), (1, .int (u.1 4)), (0, .ref (adr 1))]) hx hb dX1_addFrame_16 rfl hl (by decide) rfl (fun ls hl => ?_)
  obtain ⟨n, h⟩ := h
  exact L17  n (u.1 4) (0 : Int32) (si u 4 ((u.1 4) + (1 : Int32))) _ _ _ (lv_sub hl [2, 1, 0] rfl) hP hS h
set_option maxRecDepth 100000 in
set_option maxHeartbeats 4000000 in
theorem c_X5_frame (l : Launch) (D : va_G) (cI cZ : ClassId) (adr : Nat → Nat) (A : Nat → Prop) (hD : ∀ u, va_D A (fw adr cI cZ u))  (u : US) (post : Int32 → US → Prop) (h : wp_X5_frame  u post) : gMi l yX5_frame wsX5_frame 3 D cI cZ (fw adr cI cZ) A [.ref (adr 0)] u post := by
  refine Met.ofW (cc := cX5_frame) (maxL := 1) (ret := (some .int)) (by decide) rfl ?_
  intro p e s m args below meth c s₁ B hml hv
  obtain ⟨rfl, hP, hK⟩ := hv
  have hx := B.exec
  have hb := B.bytes
  have hr := B.returns
  have hts := atoms_spec (ws := wsX5_frame) B.pre
  have hown : s.vm.findClass RX5 = some m.cls := findClass_of_methodNamed B.named
  have hlocks := B.notSynchronized
  have hinX1 : ∀ w ∈ wsX10, w ∈ wsX5_frame := by decide +kernel
  have hinX5 : ∀ w ∈ wsX50, w ∈ wsX5_frame := by decide +kernel
  have hS : va_S A s.heap s.heap [] := va_S.rf
  have hl := lv_entry ([.ref (adr 0)]) (n := 1) (Nat.le_of_ble_eq_true rfl)
  rw [lg_entry_eq]
  generalize (lg_sl ([.ref (adr 0)]) ++ List.replicate (1 - (lg_sl ([.ref (adr 0)])).length) Slot.unset).toArray = ls at hl ⊢
  replace hl : lv_has ls 1 [(0, .ref (adr 0))] := hl
  refine lv_aload_n hx hb dX5_frame_0 rfl (lv_at hl 0 rfl) ?_
  refine fwg_0_0 hx hb hts hinX5 hown hK hP (hts (.fieldLink RX5 12 "FilmBench" "film" "LFilmBench$Reel;") (by decide +kernel)) dX5_frame_1 ?_
  refine fwg_1_3 (v := (u.1 4)) hx hb hts hinX1 hown hK hP (hts (.fieldLink RX5 86 "FilmBench$Reel" "frames" "I") (by decide +kernel)) dX5_frame_4 rfl ?_
  refine lv_bipush (v := (10 : Int32)) hx hb dX5_frame_7 (by decide) ?_
  refine lv_icmp_lt (tgt := 17) hx hb dX5_frame_9 (by decide) (fun hc => ?_) (fun hc => ?_)
  · have h := h.1 hc
    refine lv_aload_n hx hb dX5_frame_17 rfl (lv_at hl 0 rfl) ?_
    refine fwg_0_0 hx hb hts hinX5 hown hK hP (hts (.fieldLink RX5 12 "FilmBench" "film" "LFilmBench$Reel;") (by decide +kernel)) dX5_frame_18 ?_
    refine gcallVi (As := []) (rest := []) ⟨hx, hb, hml, hown, hts⟩ (c_X1_addFrame l D cI cZ adr A hD u _ h) (cwV 0 hts gX5_frame_X1_addFrame rfl rfl rfl (by decide +kernel) ⟨Nat.le_of_ble_eq_true rfl, Nat.le_of_ble_eq_true rfl⟩) (va_recv hK hP (ci := 1) (q0 := 1) rfl rfl) hK hP hS rfl hl.1 rfl (Nat.le_of_ble_eq_true rfl) dX5_frame_21 ⟨Nat.le_refl _, Nat.le_refl _⟩ (fun r21 u21 H locs h hP hS => ?_)
    exact giret hx hb hr hlocks hK hP hS h dX5_frame_24
  · have h := h.2 hc
    refine lv_bipush (v := (-2 : Int32)) hx hb dX5_frame_12 (by decide) ?_
    refine lv_goto (tgt := 24) hx hb dX5_frame_14 (by decide) ?_
    exact giret hx hb hr hlocks hK hP hS h dX5_frame_24
set_option maxRecDepth 100000 in
set_option maxHeartbeats 4000000 in
theorem c_X1_greyAt (l : Launch) (D : va_G) (cI cZ : ClassId) (adr : Nat → Nat) (A : Nat → Prop) (hD : ∀ u, va_D A (fw adr cI cZ u)) (p1 : Int32) (p2 : Int32) (u : US) (post : Int32 → US → Prop) (h : wp_X1_greyAt p1 p2 u post) : gMi l yX1_greyAt wsX1_greyAt 1 D cI cZ (fw adr cI cZ) A [.ref (adr 1), .int p1, .int p2] u post := by
  refine Met.ofW (cc := cX1_greyAt) (maxL := 3) (ret := (some .int)) (by decide) rfl ?_
  intro p e s m args below meth c s₁ B hml hv
  obtain ⟨rfl, hP, hK⟩ := hv
  have hx := B.exec
  have hb := B.bytes
  have hr := B.returns
  have hts := atoms_spec (ws := wsX1_greyAt) B.pre
  have hown : s.vm.findClass RX1 = some m.cls := findClass_of_methodNamed B.named
  have hlocks := B.notSynchronized
  have hinX1 : ∀ w ∈ wsX10, w ∈ wsX1_greyAt := by decide +kernel
  have hS : va_S A s.heap s.heap [] := va_S.rf
  have hl := lv_entry ([.ref (adr 1), .int p1, .int p2]) (n := 3) (Nat.le_of_ble_eq_true rfl)
  rw [lg_entry_eq]
  generalize (lg_sl ([.ref (adr 1), .int p1, .int p2]) ++ List.replicate (3 - (lg_sl ([.ref (adr 1), .int p1, .int p2])).length) Slot.unset).toArray = ls at hl ⊢
  replace hl : lv_has ls 3 [(0, .ref (adr 1)), (1, .int p1), (2, .int p2)] := hl
  refine lv_aload_n hx hb dX1_greyAt_0 rfl (lv_at hl 0 rfl) ?_
  refine lv_iload_n hx hb dX1_greyAt_1 rfl (lv_at hl 1 rfl) ?_
  refine gcallVi (As := [.int p1]) (rest := []) ⟨hx, hb, hml, hown, hts⟩ (c_X1_hasFrame l D cI cZ adr A hD p1 u _ h) (cwV 1 hts gX1_greyAt_X1_hasFrame rfl rfl rfl (by decide +kernel) ⟨Nat.le_of_ble_eq_true rfl, Nat.le_of_ble_eq_true rfl⟩) (va_recv hK hP (ci := 1) (q0 := 1) rfl rfl) hK hP hS rfl hl.1 rfl (Nat.le_of_ble_eq_true rfl) dX1_greyAt_2 ⟨Nat.le_refl _, Nat.le_refl _⟩ (fun r2 u2 H locs h hP hS => ?_)
  refine lv_if_eq (tgt := 16) hx hb dX1_greyAt_5 (by decide) (fun hc => ?_) (fun hc => ?_)
  · have h := h.1 hc
    refine lv_iconst (v := (-1 : Int32)) hx hb dX1_greyAt_16 (by decide) ?_
    exact giret hx hb hr hlocks hK hP hS h dX1_greyAt_17
  · have h := h.2 hc
    refine lv_aload_n hx hb dX1_greyAt_8 rfl (lv_at hl 0 rfl) ?_
    refine lv_iload_n hx hb dX1_greyAt_9 rfl (lv_at hl 2 rfl) ?_
    refine gcallVi (As := [.int p2]) (rest := []) ⟨hx, hb, hml, hown, hts⟩ (c_X1_hasPlace l D cI cZ adr A hD p2 u2 _ h) (cwV 1 hts gX1_greyAt_X1_hasPlace rfl rfl rfl (by decide +kernel) ⟨Nat.le_of_ble_eq_true rfl, Nat.le_of_ble_eq_true rfl⟩) (va_recv hK hP (ci := 1) (q0 := 1) rfl rfl) hK hP hS rfl hl.1 rfl (Nat.le_of_ble_eq_true rfl) dX1_greyAt_10 ⟨Nat.le_refl _, Nat.le_refl _⟩ (fun r10 u10 H locs h hP hS => ?_)
    refine lv_if_ne (tgt := 18) hx hb dX1_greyAt_13 (by decide) (fun hc => ?_) (fun hc => ?_)
    · have h := h.2 hc
      refine lv_aload_n hx hb dX1_greyAt_18 rfl (lv_at hl 0 rfl) ?_
      refine fwg_1_4 hx hb hts hinX1 hown hK hP (hts (.fieldLink RX1 9 "FilmBench$Reel" "greys" "[I") (by decide +kernel)) dX1_greyAt_19 ?_
      refine lv_iload_n hx hb dX1_greyAt_22 rfl (lv_at hl 1 rfl) ?_
      refine lv_bipush (v := (36 : Int32)) hx hb dX1_greyAt_23 (by decide) ?_
      refine lv_imul hx hb dX1_greyAt_25 ?_
      refine lv_iload_n hx hb dX1_greyAt_26 rfl (lv_at hl 2 rfl) ?_
      refine lv_iadd hx hb dX1_greyAt_27 ?_
      refine fwl_2 (v := ((u10.2 2) ((p1 * (36 : Int32)) + p2).toNatClampNeg)) hx hb hK hP h.1 dX1_greyAt_28 rfl ?_
      have h := h.2
      exact giret hx hb hr hlocks hK hP hS h dX1_greyAt_29
    · have h := h.1 hc
      refine lv_iconst (v := (-1 : Int32)) hx hb dX1_greyAt_16 (by decide) ?_
      exact giret hx hb hr hlocks hK hP hS h dX1_greyAt_17
set_option maxRecDepth 100000 in
set_option maxHeartbeats 4000000 in
theorem c_X5_again (l : Launch) (D : va_G) (cI cZ : ClassId) (adr : Nat → Nat) (A : Nat → Prop) (hD : ∀ u, va_D A (fw adr cI cZ u)) (p1 : Int32) (p2 : Int32) (u : US) (post : Int32 → US → Prop) (h : wp_X5_again p1 p2 u post) : gMi l yX5_again wsX5_again 3 D cI cZ (fw adr cI cZ) A [.ref (adr 0), .int p1, .int p2] u post := by
  refine Met.ofW (cc := cX5_again) (maxL := 6) (ret := (some .int)) (by decide) rfl ?_
  intro p e s m args below meth c s₁ B hml hv
  obtain ⟨rfl, hP, hK⟩ := hv
  have hx := B.exec
  have hb := B.bytes
  have hr := B.returns
  have hts := atoms_spec (ws := wsX5_again) B.pre
  have hown : s.vm.findClass RX5 = some m.cls := findClass_of_methodNamed B.named
  have hlocks := B.notSynchronized
  have hinX1 : ∀ w ∈ wsX10, w ∈ wsX5_again := by decide +kernel
  have hinX5 : ∀ w ∈ wsX50, w ∈ wsX5_again := by decide +kernel
  have hS : va_S A s.heap s.heap [] := va_S.rf
  have L50 : ∀ (n : Nat), ∀ (x1 : Int32) (x2 : Int32) (x3 : Int32) (x4 : Int32) (u : US) (H : Heap) (locs : List Loc) (ls : Array Slot), lv_has ls 6 [(0, .ref (adr 0)), (1, .int x1), (2, .int x2), (3, .int x3), (4, .int x4)] → va_P D vwCl (fw adr cI cZ u) H → va_S A s.heap H locs → wp_X5_again_50  post n x1 x2 x3 x4 u → gWi p l e wsX5_again 3 s m [.ref (adr 0), .int p1, .int p2] below meth c D cI cZ (fw adr cI cZ) A post H locs (F0 m 50 ls []) := by
    intro  n
    induction n with
    | zero => intro x1 x2 x3 x4 u H locs ls hl hP hS h; exact False.elim h
    | succ n ih =>
      intro x1 x2 x3 x4 u H locs ls hl hP hS h
      refine lv_iload hx hb dX5_again_50 (lv_at hl 4 rfl) ?_
      refine lv_aload_n hx hb dX5_again_52 rfl (lv_at hl 0 rfl) ?_
      refine fwg_0_0 hx hb hts hinX5 hown hK hP (hts (.fieldLink RX5 12 "FilmBench" "film" "LFilmBench$Reel;") (by decide +kernel)) dX5_again_53 ?_
      refine fwg_1_2 (v := (u.1 3)) hx hb hts hinX1 hown hK hP (hts (.fieldLink RX5 83 "FilmBench$Reel" "squares" "I") (by decide +kernel)) dX5_again_56 rfl ?_
      refine lv_icmp_ge (tgt := 109) hx hb dX5_again_59 (by decide) (fun hc => ?_) (fun hc => ?_)
      · have h := h.1 hc
        refine lv_iload_n hx hb dX5_again_109 rfl (lv_at hl 3 rfl) ?_
        exact giret hx hb hr hlocks hK hP hS h dX5_again_110
      · have h := h.2 hc
        refine lv_aload_n hx hb dX5_again_62 rfl (lv_at hl 0 rfl) ?_
        refine fwg_0_0 hx hb hts hinX5 hown hK hP (hts (.fieldLink RX5 12 "FilmBench" "film" "LFilmBench$Reel;") (by decide +kernel)) dX5_again_63 ?_
        refine lv_iload_n hx hb dX5_again_66 rfl (lv_at hl 1 rfl) ?_
        refine lv_iload hx hb dX5_again_67 (lv_at hl 4 rfl) ?_
        refine gcallVi (As := [.int x1, .int x4]) (rest := []) ⟨hx, hb, hml, hown, hts⟩ (c_X1_greyAt l D cI cZ adr A hD x1 x4 u _ h) (cwV 2 hts gX5_again_X1_greyAt rfl rfl rfl (by decide +kernel) ⟨Nat.le_of_ble_eq_true rfl, Nat.le_of_ble_eq_true rfl⟩) (va_recv hK hP (ci := 1) (q0 := 1) rfl rfl) hK hP hS rfl hl.1 rfl (Nat.le_of_ble_eq_true rfl) dX5_again_69 ⟨Nat.le_refl _, Nat.le_refl _⟩ (fun r69 u69 H locs h hP hS => ?_)
        refine lv_istore (lv' := [(5, .int r69), (0, .ref (adr 0)), (1, .int x1), (2, .int x2), (3, .int x3), (4, .int x4)]) hx hb dX5_again_72 hl (by decide) rfl (fun ls hl => ?_)
        refine lv_iload hx hb dX5_again_74 (lv_at hl 0 rfl) ?_
        refine lv_iconst (v := (-1 : Int32)) hx hb dX5_again_76 (by decide) ?_
        refine lv_icmp_eq (tgt := 103) hx hb dX5_again_77 (by decide) (fun hc => ?_) (fun hc => ?_)
        · have h := h.1 hc
          refine lv_iinc (v := (x4 + 1)) (lv' := [(4, .int (x4 + 1)), (5, .int r69), (0, .ref (adr 0)), (1, .int x1), (2, .int x2), (3, .int x3)]) hx hb dX5_again_103 hl (k := 5) rfl (congrArg (HAdd.hAdd _) (show Int32.ofInt (1) = (1 : Int32) by decide)) (by decide) rfl (fun ls hl => ?_)
          refine lv_goto (tgt := 50) hx hb dX5_again_106 (by decide) ?_
          exact ih x1 x2 x3 (x4 + 1) u69 _ _ _ (lv_sub hl [2, 3, 4, 5, 0] rfl) hP hS h
        · have h := h.2 hc
          refine lv_aload_n hx hb dX5_again_80 rfl (lv_at hl 1 rfl) ?_
          refine fwg_0_0 hx hb hts hinX5 hown hK hP (hts (.fieldLink RX5 12 "FilmBench" "film" "LFilmBench$Reel;") (by decide +kernel)) dX5_again_81 ?_
          refine lv_iload_n hx hb dX5_again_84 rfl (lv_at hl 4 rfl) ?_
          refine lv_iload hx hb dX5_again_85 (lv_at hl 5 rfl) ?_
          refine lv_iconst (v := (0 : Int32)) hx hb dX5_again_87 (by decide) ?_
          refine lv_bipush (v := (63 : Int32)) hx hb dX5_again_88 (by decide) ?_
          refine lv_iload hx hb dX5_again_90 (lv_at hl 0 rfl) ?_
          refine lv_iload_n hx hb dX5_again_92 rfl (lv_at hl 3 rfl) ?_
          refine lv_iadd hx hb dX5_again_93 ?_
          refine gmin hx hb (hml.trans hl.1.symm) (own := RX5) hown hts (by decide +kernel) (Nat.le_of_ble_eq_true rfl) (Nat.le_of_ble_eq_true rfl) (Nat.zero_le _) (Nat.zero_le _) dX5_again_94 ?_
          refine gmax hx hb (hml.trans hl.1.symm) (own := RX5) hown hts (by decide +kernel) (Nat.le_of_ble_eq_true rfl) (Nat.le_of_ble_eq_true rfl) (Nat.zero_le _) (Nat.zero_le _) dX5_again_97 ?_
          refine gcallVv (As := [.int x3, .int x4, .int (jmax (0 : Int32) (jmin (63 : Int32) (r69 + x2)))]) (rest := []) ⟨hx, hb, hml, hown, hts⟩ (c_X1_setGrey l D cI cZ adr A hD x3 x4 (jmax (0 : Int32) (jmin (63 : Int32) (r69 + x2))) u69 _ h) (cwV 3 hts gX5_again_X1_setGrey rfl rfl rfl (by decide +kernel) ⟨Nat.le_of_ble_eq_true rfl, Nat.le_of_ble_eq_true rfl⟩) (va_recv hK hP (ci := 1) (q0 := 1) rfl rfl) hK hP hS rfl hl.1 rfl (Nat.le_of_ble_eq_true rfl) dX5_again_100 ⟨Nat.le_refl _, Nat.le_refl _⟩ (fun u100 H locs h hP hS => ?_)
          refine lv_iinc (v := (x4 + 1)) (lv' := [(4, .int (x4 + 1)), (5, .int r69), (0, .ref (adr 0)), (1, .int x1), (2, .int x2), (3, .int x3)]) hx hb dX5_again_103 hl (k := 5) rfl (congrArg (HAdd.hAdd _) (show Int32.ofInt (1) = (1 : Int32) by decide)) (by decide) rfl (fun ls hl => ?_)
          refine lv_goto (tgt := 50) hx hb dX5_again_106 (by decide) ?_
          exact ih x1 x2 x3 (x4 + 1) u100 _ _ _ (lv_sub hl [2, 3, 4, 5, 0] rfl) hP hS h
  have hl := lv_entry ([.ref (adr 0), .int p1, .int p2]) (n := 6) (Nat.le_of_ble_eq_true rfl)
  rw [lg_entry_eq]
  generalize (lg_sl ([.ref (adr 0), .int p1, .int p2]) ++ List.replicate (6 - (lg_sl ([.ref (adr 0), .int p1, .int p2])).length) Slot.unset).toArray = ls at hl ⊢
  replace hl : lv_has ls 6 [(0, .ref (adr 0)), (1, .int p1), (2, .int p2)] := hl
  refine lv_aload_n hx hb dX5_again_0 rfl (lv_at hl 0 rfl) ?_
  refine fwg_0_0 hx hb hts hinX5 hown hK hP (hts (.fieldLink RX5 12 "FilmBench" "film" "LFilmBench$Reel;") (by decide +kernel)) dX5_again_1 ?_
  refine lv_iload_n hx hb dX5_again_4 rfl (lv_at hl 1 rfl) ?_
  refine gcallVi (As := [.int p1]) (rest := []) ⟨hx, hb, hml, hown, hts⟩ (c_X1_hasFrame l D cI cZ adr A hD p1 u _ h) (cwV 1 hts gX5_again_X1_hasFrame rfl rfl rfl (by decide +kernel) ⟨Nat.le_of_ble_eq_true rfl, Nat.le_of_ble_eq_true rfl⟩) (va_recv hK hP (ci := 1) (q0 := 1) rfl rfl) hK hP hS rfl hl.1 rfl (Nat.le_of_ble_eq_true rfl) dX5_again_5 ⟨Nat.le_refl _, Nat.le_refl _⟩ (fun r5 u5 H locs h hP hS => ?_)
  refine lv_if_eq (tgt := 22) hx hb dX5_again_8 (by decide) (fun hc => ?_) (fun hc => ?_)
  · have h := h.1 hc
    refine lv_iconst (v := (-1 : Int32)) hx hb dX5_again_22 (by decide) ?_
    exact giret hx hb hr hlocks hK hP hS h dX5_again_23
  · have h := h.2 hc
    refine lv_iload_n hx hb dX5_again_11 rfl (lv_at hl 2 rfl) ?_
    refine lv_bipush (v := (-63 : Int32)) hx hb dX5_again_12 (by decide) ?_
    refine lv_bipush (v := (63 : Int32)) hx hb dX5_again_14 (by decide) ?_
    refine gcallSi (As := [.int p2, .int (-63 : Int32), .int (63 : Int32)]) (rest := []) ⟨hx, hb, hml, hown, hts⟩ (c_X5_isWithin l D cI cZ adr A hD p2 (-63 : Int32) (63 : Int32) u5 _ h) (va_cwS 3 hts gX5_again_X5_isWithin rfl rfl rfl (by decide +kernel) ⟨Nat.le_of_ble_eq_true rfl, Nat.le_of_ble_eq_true rfl⟩) hK hP hS rfl hl.1 rfl (Nat.le_of_ble_eq_true rfl) dX5_again_16 ⟨Nat.le_refl _, Nat.le_refl _⟩ (fun r16 u16 H locs h hP hS => ?_)
    refine lv_if_ne (tgt := 24) hx hb dX5_again_19 (by decide) (fun hc => ?_) (fun hc => ?_)
    · have h := h.2 hc
      refine lv_aload_n hx hb dX5_again_24 rfl (lv_at hl 0 rfl) ?_
      refine fwg_0_0 hx hb hts hinX5 hown hK hP (hts (.fieldLink RX5 12 "FilmBench" "film" "LFilmBench$Reel;") (by decide +kernel)) dX5_again_25 ?_
      refine fwg_1_3 (v := (u16.1 4)) hx hb hts hinX1 hown hK hP (hts (.fieldLink RX5 86 "FilmBench$Reel" "frames" "I") (by decide +kernel)) dX5_again_28 rfl ?_
      refine lv_bipush (v := (10 : Int32)) hx hb dX5_again_31 (by decide) ?_
      refine lv_icmp_lt (tgt := 39) hx hb dX5_again_33 (by decide) (fun hc => ?_) (fun hc => ?_)
      · have h := h.1 hc
        refine lv_aload_n hx hb dX5_again_39 rfl (lv_at hl 0 rfl) ?_
        refine fwg_0_0 hx hb hts hinX5 hown hK hP (hts (.fieldLink RX5 12 "FilmBench" "film" "LFilmBench$Reel;") (by decide +kernel)) dX5_again_40 ?_
        refine gcallVi (As := []) (rest := []) ⟨hx, hb, hml, hown, hts⟩ (c_X1_addFrame l D cI cZ adr A hD u16 _ h) (cwV 0 hts gX5_again_X1_addFrame rfl rfl rfl (by decide +kernel) ⟨Nat.le_of_ble_eq_true rfl, Nat.le_of_ble_eq_true rfl⟩) (va_recv hK hP (ci := 1) (q0 := 1) rfl rfl) hK hP hS rfl hl.1 rfl (Nat.le_of_ble_eq_true rfl) dX5_again_43 ⟨Nat.le_refl _, Nat.le_refl _⟩ (fun r43 u43 H locs h hP hS => ?_)
        refine lv_istore_n (lv' := [(3, .int r43), (0, .ref (adr 0)), (1, .int p1), (2, .int p2)]) hx hb dX5_again_46 rfl hl (by decide) rfl (fun ls hl => ?_)
        refine lv_iconst (v := (0 : Int32)) hx hb dX5_again_47 (by decide) ?_
        refine lv_istore (lv' := [(4, .int (0 : Int32)), (3, .int r43), (0, .ref (adr 0)), (1, .int p1), (2, .int p2)]) hx hb dX5_again_48 hl (by decide) rfl (fun ls hl => ?_)
        obtain ⟨n, h⟩ := h
        exact L50  n p1 p2 r43 (0 : Int32) u43 _ _ _ (lv_sub hl [2, 3, 4, 1, 0] rfl) hP hS h
      · have h := h.2 hc
        refine lv_bipush (v := (-2 : Int32)) hx hb dX5_again_36 (by decide) ?_
        exact giret hx hb hr hlocks hK hP hS h dX5_again_38
    · have h := h.1 hc
      refine lv_iconst (v := (-1 : Int32)) hx hb dX5_again_22 (by decide) ?_
      exact giret hx hb hr hlocks hK hP hS h dX5_again_23
set_option maxRecDepth 100000 in
set_option maxHeartbeats 4000000 in
theorem c_X1_placeOf (l : Launch) (D : va_G) (cI cZ : ClassId) (adr : Nat → Nat) (A : Nat → Prop) (hD : ∀ u, va_D A (fw adr cI cZ u)) (p1 : Int32) (p2 : Int32) (u : US) (post : Int32 → US → Prop) (h : wp_X1_placeOf p1 p2 u post) : gMi l yX1_placeOf wsX1_placeOf 0 D cI cZ (fw adr cI cZ) A [.ref (adr 1), .int p1, .int p2] u post := by
  refine Met.ofW (cc := cX1_placeOf) (maxL := 3) (ret := (some .int)) (by decide) rfl ?_
  intro p e s m args below meth c s₁ B hml hv
  obtain ⟨rfl, hP, hK⟩ := hv
  have hx := B.exec
  have hb := B.bytes
  have hr := B.returns
  have hts := atoms_spec (ws := wsX1_placeOf) B.pre
  have hown : s.vm.findClass RX1 = some m.cls := findClass_of_methodNamed B.named
  have hlocks := B.notSynchronized
  have hinX1 : ∀ w ∈ wsX10, w ∈ wsX1_placeOf := by decide +kernel
  have hS : va_S A s.heap s.heap [] := va_S.rf
  have hl := lv_entry ([.ref (adr 1), .int p1, .int p2]) (n := 3) (Nat.le_of_ble_eq_true rfl)
  rw [lg_entry_eq]
  generalize (lg_sl ([.ref (adr 1), .int p1, .int p2]) ++ List.replicate (3 - (lg_sl ([.ref (adr 1), .int p1, .int p2])).length) Slot.unset).toArray = ls at hl ⊢
  replace hl : lv_has ls 3 [(0, .ref (adr 1)), (1, .int p1), (2, .int p2)] := hl
  refine lv_iload_n hx hb dX1_placeOf_0 rfl (lv_at hl 1 rfl) ?_
  refine lv_if_lt (tgt := 24) hx hb dX1_placeOf_1 (by decide) (fun hc => ?_) (fun hc => ?_)
  · have h := h.1 hc
    refine lv_sipush (v := (-1000 : Int32)) hx hb dX1_placeOf_24 (by decide) ?_
    exact giret hx hb hr hlocks hK hP hS h dX1_placeOf_27
  · have h := h.2 hc
    refine lv_iload_n hx hb dX1_placeOf_4 rfl (lv_at hl 1 rfl) ?_
    refine lv_aload_n hx hb dX1_placeOf_5 rfl (lv_at hl 0 rfl) ?_
    refine fwg_1_0 (v := (u.1 1)) hx hb hts hinX1 hown hK hP (hts (.fieldLink RX1 15 "FilmBench$Reel" "high" "I") (by decide +kernel)) dX1_placeOf_6 rfl ?_
    refine lv_icmp_ge (tgt := 24) hx hb dX1_placeOf_9 (by decide) (fun hc => ?_) (fun hc => ?_)
    · have h := h.1 hc
      refine lv_sipush (v := (-1000 : Int32)) hx hb dX1_placeOf_24 (by decide) ?_
      exact giret hx hb hr hlocks hK hP hS h dX1_placeOf_27
    · have h := h.2 hc
      refine lv_iload_n hx hb dX1_placeOf_12 rfl (lv_at hl 2 rfl) ?_
      refine lv_if_lt (tgt := 24) hx hb dX1_placeOf_13 (by decide) (fun hc => ?_) (fun hc => ?_)
      · have h := h.1 hc
        refine lv_sipush (v := (-1000 : Int32)) hx hb dX1_placeOf_24 (by decide) ?_
        exact giret hx hb hr hlocks hK hP hS h dX1_placeOf_27
      · have h := h.2 hc
        refine lv_iload_n hx hb dX1_placeOf_16 rfl (lv_at hl 2 rfl) ?_
        refine lv_aload_n hx hb dX1_placeOf_17 rfl (lv_at hl 0 rfl) ?_
        refine fwg_1_1 (v := (u.1 2)) hx hb hts hinX1 hown hK hP (hts (.fieldLink RX1 19 "FilmBench$Reel" "wide" "I") (by decide +kernel)) dX1_placeOf_18 rfl ?_
        refine lv_icmp_lt (tgt := 28) hx hb dX1_placeOf_21 (by decide) (fun hc => ?_) (fun hc => ?_)
        · have h := h.1 hc
          refine lv_iload_n hx hb dX1_placeOf_28 rfl (lv_at hl 1 rfl) ?_
          refine lv_aload_n hx hb dX1_placeOf_29 rfl (lv_at hl 0 rfl) ?_
          refine fwg_1_1 (v := (u.1 2)) hx hb hts hinX1 hown hK hP (hts (.fieldLink RX1 19 "FilmBench$Reel" "wide" "I") (by decide +kernel)) dX1_placeOf_30 rfl ?_
          refine lv_imul hx hb dX1_placeOf_33 ?_
          refine lv_iload_n hx hb dX1_placeOf_34 rfl (lv_at hl 2 rfl) ?_
          refine lv_iadd hx hb dX1_placeOf_35 ?_
          exact giret hx hb hr hlocks hK hP hS h dX1_placeOf_36
        · have h := h.2 hc
          refine lv_sipush (v := (-1000 : Int32)) hx hb dX1_placeOf_24 (by decide) ?_
          exact giret hx hb hr hlocks hK hP hS h dX1_placeOf_27
set_option maxRecDepth 100000 in
set_option maxHeartbeats 4000000 in
theorem c_X5_put (l : Launch) (D : va_G) (cI cZ : ClassId) (adr : Nat → Nat) (A : Nat → Prop) (hD : ∀ u, va_D A (fw adr cI cZ u)) (p1 : Int32) (p2 : Int32) (p3 : Int32) (p4 : Int32) (u : US) (post : Int32 → US → Prop) (h : wp_X5_put p1 p2 p3 p4 u post) : gMi l yX5_put wsX5_put 2 D cI cZ (fw adr cI cZ) A [.ref (adr 0), .int p1, .int p2, .int p3, .int p4] u post := by
  refine Met.ofW (cc := cX5_put) (maxL := 7) (ret := (some .int)) (by decide) rfl ?_
  intro p e s m args below meth c s₁ B hml hv
  obtain ⟨rfl, hP, hK⟩ := hv
  have hx := B.exec
  have hb := B.bytes
  have hr := B.returns
  have hts := atoms_spec (ws := wsX5_put) B.pre
  have hown : s.vm.findClass RX5 = some m.cls := findClass_of_methodNamed B.named
  have hlocks := B.notSynchronized
  have hinX5 : ∀ w ∈ wsX50, w ∈ wsX5_put := by decide +kernel
  have hS : va_S A s.heap s.heap [] := va_S.rf
  have hl := lv_entry ([.ref (adr 0), .int p1, .int p2, .int p3, .int p4]) (n := 7) (Nat.le_of_ble_eq_true rfl)
  rw [lg_entry_eq]
  generalize (lg_sl ([.ref (adr 0), .int p1, .int p2, .int p3, .int p4]) ++ List.replicate (7 - (lg_sl ([.ref (adr 0), .int p1, .int p2, .int p3, .int p4])).length) Slot.unset).toArray = ls at hl ⊢
  replace hl : lv_has ls 7 [(0, .ref (adr 0)), (1, .int p1), (2, .int p2), (3, .int p3), (4, .int p4)] := hl
  refine lv_aload_n hx hb dX5_put_0 rfl (lv_at hl 0 rfl) ?_
  refine fwg_0_0 hx hb hts hinX5 hown hK hP (hts (.fieldLink RX5 12 "FilmBench" "film" "LFilmBench$Reel;") (by decide +kernel)) dX5_put_1 ?_
  refine lv_iload_n hx hb dX5_put_4 rfl (lv_at hl 2 rfl) ?_
  refine lv_iload_n hx hb dX5_put_5 rfl (lv_at hl 3 rfl) ?_
  refine gcallVi (As := [.int p2, .int p3]) (rest := []) ⟨hx, hb, hml, hown, hts⟩ (c_X1_placeOf l D cI cZ adr A hD p2 p3 u _ h) (cwV 2 hts gX5_put_X1_placeOf rfl rfl rfl (by decide +kernel) ⟨Nat.le_of_ble_eq_true rfl, Nat.le_of_ble_eq_true rfl⟩) (va_recv hK hP (ci := 1) (q0 := 1) rfl rfl) hK hP hS rfl hl.1 rfl (Nat.le_of_ble_eq_true rfl) dX5_put_6 ⟨Nat.le_refl _, Nat.le_refl _⟩ (fun r6 u6 H locs h hP hS => ?_)
  refine lv_istore (lv' := [(5, .int r6), (0, .ref (adr 0)), (1, .int p1), (2, .int p2), (3, .int p3), (4, .int p4)]) hx hb dX5_put_9 hl (by decide) rfl (fun ls hl => ?_)
  refine lv_aload_n hx hb dX5_put_11 rfl (lv_at hl 1 rfl) ?_
  refine fwg_0_0 hx hb hts hinX5 hown hK hP (hts (.fieldLink RX5 12 "FilmBench" "film" "LFilmBench$Reel;") (by decide +kernel)) dX5_put_12 ?_
  refine lv_iload_n hx hb dX5_put_15 rfl (lv_at hl 2 rfl) ?_
  refine gcallVi (As := [.int p1]) (rest := []) ⟨hx, hb, hml, hown, hts⟩ (c_X1_hasFrame l D cI cZ adr A hD p1 u6 _ h) (cwV 1 hts gX5_put_X1_hasFrame rfl rfl rfl (by decide +kernel) ⟨Nat.le_of_ble_eq_true rfl, Nat.le_of_ble_eq_true rfl⟩) (va_recv hK hP (ci := 1) (q0 := 1) rfl rfl) hK hP hS rfl hl.1 rfl (Nat.le_of_ble_eq_true rfl) dX5_put_16 ⟨Nat.le_refl _, Nat.le_refl _⟩ (fun r16 u16 H locs h hP hS => ?_)
  refine lv_if_eq (tgt := 38) hx hb dX5_put_19 (by decide) (fun hc => ?_) (fun hc => ?_)
  · have h := h.1 hc
    refine lv_sipush (v := (-1000 : Int32)) hx hb dX5_put_38 (by decide) ?_
    exact giret hx hb hr hlocks hK hP hS h dX5_put_41
  · have h := h.2 hc
    refine lv_iload hx hb dX5_put_22 (lv_at hl 0 rfl) ?_
    refine lv_if_lt (tgt := 38) hx hb dX5_put_24 (by decide) (fun hc => ?_) (fun hc => ?_)
    · have h := h.1 hc
      refine lv_sipush (v := (-1000 : Int32)) hx hb dX5_put_38 (by decide) ?_
      exact giret hx hb hr hlocks hK hP hS h dX5_put_41
    · have h := h.2 hc
      refine lv_iload hx hb dX5_put_27 (lv_at hl 5 rfl) ?_
      refine lv_iconst (v := (-1 : Int32)) hx hb dX5_put_29 (by decide) ?_
      refine lv_bipush (v := (63 : Int32)) hx hb dX5_put_30 (by decide) ?_
      refine gcallSi (As := [.int p4, .int (-1 : Int32), .int (63 : Int32)]) (rest := []) ⟨hx, hb, hml, hown, hts⟩ (c_X5_isWithin l D cI cZ adr A hD p4 (-1 : Int32) (63 : Int32) u16 _ h) (va_cwS 3 hts gX5_put_X5_isWithin rfl rfl rfl (by decide +kernel) ⟨Nat.le_of_ble_eq_true rfl, Nat.le_of_ble_eq_true rfl⟩) hK hP hS rfl hl.1 rfl (Nat.le_of_ble_eq_true rfl) dX5_put_32 ⟨Nat.le_refl _, Nat.le_refl _⟩ (fun r32 u32 H locs h hP hS => ?_)
      refine lv_if_ne (tgt := 42) hx hb dX5_put_35 (by decide) (fun hc => ?_) (fun hc => ?_)
      · have h := h.2 hc
        refine lv_aload_n hx hb dX5_put_42 rfl (lv_at hl 1 rfl) ?_
        refine fwg_0_0 hx hb hts hinX5 hown hK hP (hts (.fieldLink RX5 12 "FilmBench" "film" "LFilmBench$Reel;") (by decide +kernel)) dX5_put_43 ?_
        refine lv_iload_n hx hb dX5_put_46 rfl (lv_at hl 2 rfl) ?_
        refine lv_iload hx hb dX5_put_47 (lv_at hl 0 rfl) ?_
        refine gcallVi (As := [.int p1, .int r6]) (rest := []) ⟨hx, hb, hml, hown, hts⟩ (c_X1_greyAt l D cI cZ adr A hD p1 r6 u32 _ h) (cwV 2 hts gX5_put_X1_greyAt rfl rfl rfl (by decide +kernel) ⟨Nat.le_of_ble_eq_true rfl, Nat.le_of_ble_eq_true rfl⟩) (va_recv hK hP (ci := 1) (q0 := 1) rfl rfl) hK hP hS rfl hl.1 rfl (Nat.le_of_ble_eq_true rfl) dX5_put_49 ⟨Nat.le_refl _, Nat.le_refl _⟩ (fun r49 u49 H locs h hP hS => ?_)
        refine lv_istore (lv' := [(6, .int r49), (5, .int r6), (0, .ref (adr 0)), (1, .int p1), (2, .int p2), (3, .int p3), (4, .int p4)]) hx hb dX5_put_52 hl (by decide) rfl (fun ls hl => ?_)
        refine lv_aload_n hx hb dX5_put_54 rfl (lv_at hl 2 rfl) ?_
        refine fwg_0_0 hx hb hts hinX5 hown hK hP (hts (.fieldLink RX5 12 "FilmBench" "film" "LFilmBench$Reel;") (by decide +kernel)) dX5_put_55 ?_
        refine lv_iload_n hx hb dX5_put_58 rfl (lv_at hl 3 rfl) ?_
        refine lv_iload hx hb dX5_put_59 (lv_at hl 1 rfl) ?_
        refine lv_iload hx hb dX5_put_61 (lv_at hl 6 rfl) ?_
        refine gcallVv (As := [.int p1, .int r6, .int p4]) (rest := []) ⟨hx, hb, hml, hown, hts⟩ (c_X1_setGrey l D cI cZ adr A hD p1 r6 p4 u49 _ h) (cwV 3 hts gX5_put_X1_setGrey rfl rfl rfl (by decide +kernel) ⟨Nat.le_of_ble_eq_true rfl, Nat.le_of_ble_eq_true rfl⟩) (va_recv hK hP (ci := 1) (q0 := 1) rfl rfl) hK hP hS rfl hl.1 rfl (Nat.le_of_ble_eq_true rfl) dX5_put_63 ⟨Nat.le_refl _, Nat.le_refl _⟩ (fun u63 H locs h hP hS => ?_)
        refine lv_iload hx hb dX5_put_66 (lv_at hl 0 rfl) ?_
        exact giret hx hb hr hlocks hK hP hS h dX5_put_68
      · have h := h.1 hc
        refine lv_sipush (v := (-1000 : Int32)) hx hb dX5_put_38 (by decide) ?_
        exact giret hx hb hr hlocks hK hP hS h dX5_put_41
