set_option maxRecDepth 100000 in
set_option maxHeartbeats 4000000 in
theorem c_X6_in (l : Launch) (D : va_G) (cI cZ : ClassId) (adr : Nat → Nat) (A : Nat → Prop) (hD : ∀ u, va_D A (mw adr cI cZ u)) (p0 : Int32) (p1 : Int32) (p2 : Int32) (u : US) (post : Int32 → US → Prop) (h : wp_X6_in p0 p1 p2 u post) : gMi l yX6_in wsX6_in 0 D cI cZ (mw adr cI cZ) A [.int p0, .int p1, .int p2] u post := by
  refine Met.ofW (cc := cX6_in) (maxL := 3) (ret := (some .boolean)) (by decide) rfl ?_
  intro p e s m args below meth c s₁ B hml hv
  obtain ⟨rfl, hP, hK⟩ := hv
  have hx := B.exec
  have hb := B.bytes
  have hr := B.returns
  have hts := atoms_spec (ws := wsX6_in) B.pre
  have hown : s.vm.findClass RX6 = some m.cls := findClass_of_methodNamed B.named
  have hlocks := B.notSynchronized
  have hS : va_S A s.heap s.heap [] := va_S.rf
  have hl := lv_entry ([.int p0, .int p1, .int p2]) (n := 3) (Nat.le_of_ble_eq_true rfl)
  rw [lg_entry_eq]
  generalize (lg_sl ([.int p0, .int p1, .int p2]) ++ List.replicate (3 - (lg_sl ([.int p0, .int p1, .int p2])).length) Slot.unset).toArray = ls at hl ⊢
  replace hl : lv_has ls 3 [(0, .int p0), (1, .int p1), (2, .int p2)] := hl
  refine lv_iload_n hx hb dX6_in_0 rfl (lv_at hl 0 rfl) ?_
  refine lv_iload_n hx hb dX6_in_1 rfl (lv_at hl 1 rfl) ?_
  refine lv_icmp_lt (tgt := 14) hx hb dX6_in_2 (by decide) (fun hc => ?_) (fun hc => ?_)
  · have h := h.1 hc
    refine lv_iconst (v := (0 : Int32)) hx hb dX6_in_14 (by decide) ?_
    exact gzret hx hb hr hlocks hK hP hS rfl h dX6_in_15
  · have h := h.2 hc
    refine lv_iload_n hx hb dX6_in_5 rfl (lv_at hl 0 rfl) ?_
    refine lv_iload_n hx hb dX6_in_6 rfl (lv_at hl 2 rfl) ?_
    refine lv_icmp_gt (tgt := 14) hx hb dX6_in_7 (by decide) (fun hc => ?_) (fun hc => ?_)
    · have h := h.1 hc
      refine lv_iconst (v := (0 : Int32)) hx hb dX6_in_14 (by decide) ?_
      exact gzret hx hb hr hlocks hK hP hS rfl h dX6_in_15
    · have h := h.2 hc
      refine lv_iconst (v := (1 : Int32)) hx hb dX6_in_10 (by decide) ?_
      refine lv_goto (tgt := 15) hx hb dX6_in_11 (by decide) ?_
      exact gzret hx hb hr hlocks hK hP hS rfl h dX6_in_15
set_option maxRecDepth 100000 in
set_option maxHeartbeats 4000000 in
theorem c_X6_isFrame (l : Launch) (D : va_G) (cI cZ : ClassId) (adr : Nat → Nat) (A : Nat → Prop) (hD : ∀ u, va_D A (mw adr cI cZ u)) (p1 : Int32) (u : US) (post : Int32 → US → Prop) (h : wp_X6_isFrame p1 u post) : gMi l yX6_isFrame wsX6_isFrame 1 D cI cZ (mw adr cI cZ) A [.ref (adr 0), .int p1] u post := by
  refine Met.ofW (cc := cX6_isFrame) (maxL := 2) (ret := (some .boolean)) (by decide) rfl ?_
  intro p e s m args below meth c s₁ B hml hv
  obtain ⟨rfl, hP, hK⟩ := hv
  have hx := B.exec
  have hb := B.bytes
  have hr := B.returns
  have hts := atoms_spec (ws := wsX6_isFrame) B.pre
  have hown : s.vm.findClass RX6 = some m.cls := findClass_of_methodNamed B.named
  have hlocks := B.notSynchronized
  have hinX6 : ∀ w ∈ wsX60, w ∈ wsX6_isFrame := by decide +kernel
  have hS : va_S A s.heap s.heap [] := va_S.rf
  have hl := lv_entry ([.ref (adr 0), .int p1]) (n := 2) (Nat.le_of_ble_eq_true rfl)
  rw [lg_entry_eq]
  generalize (lg_sl ([.ref (adr 0), .int p1]) ++ List.replicate (2 - (lg_sl ([.ref (adr 0), .int p1])).length) Slot.unset).toArray = ls at hl ⊢
  replace hl : lv_has ls 2 [(0, .ref (adr 0)), (1, .int p1)] := hl
  refine lv_iload_n hx hb dX6_isFrame_0 rfl (lv_at hl 1 rfl) ?_
  refine lv_iconst (v := (0 : Int32)) hx hb dX6_isFrame_1 (by decide) ?_
  refine lv_aload_n hx hb dX6_isFrame_2 rfl (lv_at hl 0 rfl) ?_
  refine mwg_0_2 (v := (u.1 2)) hx hb hts hinX6 hown hK hP (hts (.fieldLink RX6 72 "FilmBenchModel" "frames" "I") (by decide +kernel)) dX6_isFrame_3 rfl ?_
  refine lv_iconst (v := (1 : Int32)) hx hb dX6_isFrame_6 (by decide) ?_
  refine lv_isub hx hb dX6_isFrame_7 ?_
  refine gcallSi (As := [.int p1, .int (0 : Int32), .int ((u.1 2) - (1 : Int32))]) (rest := []) ⟨hx, hb, hml, hown, hts⟩ (c_X6_in l D cI cZ adr A hD p1 (0 : Int32) ((u.1 2) - (1 : Int32)) u _ h) (va_cwS 3 hts gX6_isFrame_X6_in rfl rfl rfl (by decide +kernel) ⟨Nat.le_of_ble_eq_true rfl, Nat.le_of_ble_eq_true rfl⟩) hK hP hS rfl hl.1 rfl (Nat.le_of_ble_eq_true rfl) dX6_isFrame_8 ⟨Nat.le_refl _, Nat.le_refl _⟩ (fun r8 u8 H locs h hP hS => ?_)
  exact gzret hx hb hr hlocks hK hP hS h.1 h.2 dX6_isFrame_11
set_option maxRecDepth 100000 in
set_option maxHeartbeats 4000000 in
theorem c_X6_isSquare (l : Launch) (D : va_G) (cI cZ : ClassId) (adr : Nat → Nat) (A : Nat → Prop) (hD : ∀ u, va_D A (mw adr cI cZ u)) (p1 : Int32) (p2 : Int32) (u : US) (post : Int32 → US → Prop) (h : wp_X6_isSquare p1 p2 u post) : gMi l yX6_isSquare wsX6_isSquare 1 D cI cZ (mw adr cI cZ) A [.ref (adr 0), .int p1, .int p2] u post := by
  refine Met.ofW (cc := cX6_isSquare) (maxL := 3) (ret := (some .boolean)) (by decide) rfl ?_
  intro p e s m args below meth c s₁ B hml hv
  obtain ⟨rfl, hP, hK⟩ := hv
  have hx := B.exec
  have hb := B.bytes
  have hr := B.returns
  have hts := atoms_spec (ws := wsX6_isSquare) B.pre
  have hown : s.vm.findClass RX6 = some m.cls := findClass_of_methodNamed B.named
  have hlocks := B.notSynchronized
  have hinX6 : ∀ w ∈ wsX60, w ∈ wsX6_isSquare := by decide +kernel
  have hS : va_S A s.heap s.heap [] := va_S.rf
  have hl := lv_entry ([.ref (adr 0), .int p1, .int p2]) (n := 3) (Nat.le_of_ble_eq_true rfl)
  rw [lg_entry_eq]
  generalize (lg_sl ([.ref (adr 0), .int p1, .int p2]) ++ List.replicate (3 - (lg_sl ([.ref (adr 0), .int p1, .int p2])).length) Slot.unset).toArray = ls at hl ⊢
  replace hl : lv_has ls 3 [(0, .ref (adr 0)), (1, .int p1), (2, .int p2)] := hl
  refine lv_iload_n hx hb dX6_isSquare_0 rfl (lv_at hl 1 rfl) ?_
  refine lv_iconst (v := (0 : Int32)) hx hb dX6_isSquare_1 (by decide) ?_
  refine lv_aload_n hx hb dX6_isSquare_2 rfl (lv_at hl 0 rfl) ?_
  refine mwg_0_0 (v := (u.1 0)) hx hb hts hinX6 hown hK hP (hts (.fieldLink RX6 7 "FilmBenchModel" "high" "I") (by decide +kernel)) dX6_isSquare_3 rfl ?_
  refine lv_iconst (v := (1 : Int32)) hx hb dX6_isSquare_6 (by decide) ?_
  refine lv_isub hx hb dX6_isSquare_7 ?_
  refine gcallSi (As := [.int p1, .int (0 : Int32), .int ((u.1 0) - (1 : Int32))]) (rest := []) ⟨hx, hb, hml, hown, hts⟩ (c_X6_in l D cI cZ adr A hD p1 (0 : Int32) ((u.1 0) - (1 : Int32)) u _ h) (va_cwS 3 hts gX6_isSquare_X6_in rfl rfl rfl (by decide +kernel) ⟨Nat.le_of_ble_eq_true rfl, Nat.le_of_ble_eq_true rfl⟩) hK hP hS rfl hl.1 rfl (Nat.le_of_ble_eq_true rfl) dX6_isSquare_8 ⟨Nat.le_refl _, Nat.le_refl _⟩ (fun r8 u8 H locs h hP hS => ?_)
  refine lv_if_eq (tgt := 32) hx hb dX6_isSquare_11 (by decide) (fun hc => ?_) (fun hc => ?_)
  · have h := h.1 hc
    refine lv_iconst (v := (0 : Int32)) hx hb dX6_isSquare_32 (by decide) ?_
    exact gzret hx hb hr hlocks hK hP hS rfl h dX6_isSquare_33
  · have h := h.2 hc
    refine lv_iload_n hx hb dX6_isSquare_14 rfl (lv_at hl 2 rfl) ?_
    refine lv_iconst (v := (0 : Int32)) hx hb dX6_isSquare_15 (by decide) ?_
    refine lv_aload_n hx hb dX6_isSquare_16 rfl (lv_at hl 0 rfl) ?_
    refine mwg_0_1 (v := (u8.1 1)) hx hb hts hinX6 hown hK hP (hts (.fieldLink RX6 13 "FilmBenchModel" "wide" "I") (by decide +kernel)) dX6_isSquare_17 rfl ?_
    refine lv_iconst (v := (1 : Int32)) hx hb dX6_isSquare_20 (by decide) ?_
    refine lv_isub hx hb dX6_isSquare_21 ?_
    refine gcallSi (As := [.int p2, .int (0 : Int32), .int ((u8.1 1) - (1 : Int32))]) (rest := []) ⟨hx, hb, hml, hown, hts⟩ (c_X6_in l D cI cZ adr A hD p2 (0 : Int32) ((u8.1 1) - (1 : Int32)) u8 _ h) (va_cwS 3 hts gX6_isSquare_X6_in rfl rfl rfl (by decide +kernel) ⟨Nat.le_of_ble_eq_true rfl, Nat.le_of_ble_eq_true rfl⟩) hK hP hS rfl hl.1 rfl (Nat.le_of_ble_eq_true rfl) dX6_isSquare_22 ⟨Nat.le_refl _, Nat.le_refl _⟩ (fun r22 u22 H locs h hP hS => ?_)
    refine lv_if_eq (tgt := 32) hx hb dX6_isSquare_25 (by decide) (fun hc => ?_) (fun hc => ?_)
    · have h := h.1 hc
      refine lv_iconst (v := (0 : Int32)) hx hb dX6_isSquare_32 (by decide) ?_
      exact gzret hx hb hr hlocks hK hP hS rfl h dX6_isSquare_33
    · have h := h.2 hc
      refine lv_iconst (v := (1 : Int32)) hx hb dX6_isSquare_28 (by decide) ?_
      refine lv_goto (tgt := 33) hx hb dX6_isSquare_29 (by decide) ?_
      exact gzret hx hb hr hlocks hK hP hS rfl h dX6_isSquare_33
set_option maxRecDepth 100000 in
set_option maxHeartbeats 4000000 in
theorem c_X6_at (l : Launch) (D : va_G) (cI cZ : ClassId) (adr : Nat → Nat) (A : Nat → Prop) (hD : ∀ u, va_D A (mw adr cI cZ u)) (p1 : Int32) (p2 : Int32) (p3 : Int32) (u : US) (post : Int32 → US → Prop) (h : wp_X6_at p1 p2 p3 u post) : gMi l yX6_at wsX6_at 0 D cI cZ (mw adr cI cZ) A [.ref (adr 0), .int p1, .int p2, .int p3] u post := by
  refine Met.ofW (cc := cX6_at) (maxL := 4) (ret := (some .int)) (by decide) rfl ?_
  intro p e s m args below meth c s₁ B hml hv
  obtain ⟨rfl, hP, hK⟩ := hv
  have hx := B.exec
  have hb := B.bytes
  have hr := B.returns
  have hts := atoms_spec (ws := wsX6_at) B.pre
  have hown : s.vm.findClass RX6 = some m.cls := findClass_of_methodNamed B.named
  have hlocks := B.notSynchronized
  have hinX6 : ∀ w ∈ wsX60, w ∈ wsX6_at := by decide +kernel
  have hS : va_S A s.heap s.heap [] := va_S.rf
  have hl := lv_entry ([.ref (adr 0), .int p1, .int p2, .int p3]) (n := 4) (Nat.le_of_ble_eq_true rfl)
  rw [lg_entry_eq]
  generalize (lg_sl ([.ref (adr 0), .int p1, .int p2, .int p3]) ++ List.replicate (4 - (lg_sl ([.ref (adr 0), .int p1, .int p2, .int p3])).length) Slot.unset).toArray = ls at hl ⊢
  replace hl : lv_has ls 4 [(0, .ref (adr 0)), (1, .int p1), (2, .int p2), (3, .int p3)] := hl
  refine lv_bipush (v := (36 : Int32)) hx hb dX6_at_0 (by decide) ?_
  refine lv_iload_n hx hb dX6_at_2 rfl (lv_at hl 1 rfl) ?_
  refine lv_imul hx hb dX6_at_3 ?_
  refine lv_aload_n hx hb dX6_at_4 rfl (lv_at hl 0 rfl) ?_
  refine mwg_0_1 (v := (u.1 1)) hx hb hts hinX6 hown hK hP (hts (.fieldLink RX6 13 "FilmBenchModel" "wide" "I") (by decide +kernel)) dX6_at_5 rfl ?_
  refine lv_iload_n hx hb dX6_at_8 rfl (lv_at hl 2 rfl) ?_
  refine lv_imul hx hb dX6_at_9 ?_
  refine lv_iadd hx hb dX6_at_10 ?_
  refine lv_iload_n hx hb dX6_at_11 rfl (lv_at hl 3 rfl) ?_
  refine lv_iadd hx hb dX6_at_12 ?_
  exact giret hx hb hr hlocks hK hP hS h dX6_at_13
set_option maxRecDepth 100000 in
set_option maxHeartbeats 4000000 in
theorem c_X6_reel (l : Launch) (D : va_G) (cI cZ : ClassId) (adr : Nat → Nat) (A : Nat → Prop) (hD : ∀ u, va_D A (mw adr cI cZ u)) (p1 : Int32) (p2 : Int32) (u : US) (post : Int32 → US → Prop) (h : wp_X6_reel p1 p2 u post) : gMi l yX6_reel wsX6_reel 1 D cI cZ (mw adr cI cZ) A [.ref (adr 0), .int p1, .int p2] u post := by
  refine Met.ofW (cc := cX6_reel) (maxL := 3) (ret := (some .int)) (by decide) rfl ?_
  intro p e s m args below meth c s₁ B hml hv
  obtain ⟨rfl, hP, hK⟩ := hv
  have hx := B.exec
  have hb := B.bytes
  have hr := B.returns
  have hts := atoms_spec (ws := wsX6_reel) B.pre
  have hown : s.vm.findClass RX6 = some m.cls := findClass_of_methodNamed B.named
  have hlocks := B.notSynchronized
  have hinX6 : ∀ w ∈ wsX60, w ∈ wsX6_reel := by decide +kernel
  have hS : va_S A s.heap s.heap [] := va_S.rf
  have hl := lv_entry ([.ref (adr 0), .int p1, .int p2]) (n := 3) (Nat.le_of_ble_eq_true rfl)
  rw [lg_entry_eq]
  generalize (lg_sl ([.ref (adr 0), .int p1, .int p2]) ++ List.replicate (3 - (lg_sl ([.ref (adr 0), .int p1, .int p2])).length) Slot.unset).toArray = ls at hl ⊢
  replace hl : lv_has ls 3 [(0, .ref (adr 0)), (1, .int p1), (2, .int p2)] := hl
  refine lv_iload_n hx hb dX6_reel_0 rfl (lv_at hl 1 rfl) ?_
  refine lv_iconst (v := (2 : Int32)) hx hb dX6_reel_1 (by decide) ?_
  refine lv_bipush (v := (6 : Int32)) hx hb dX6_reel_2 (by decide) ?_
  refine gcallSi (As := [.int p1, .int (2 : Int32), .int (6 : Int32)]) (rest := []) ⟨hx, hb, hml, hown, hts⟩ (c_X6_in l D cI cZ adr A hD p1 (2 : Int32) (6 : Int32) u _ h) (va_cwS 3 hts gX6_reel_X6_in rfl rfl rfl (by decide +kernel) ⟨Nat.le_of_ble_eq_true rfl, Nat.le_of_ble_eq_true rfl⟩) hK hP hS rfl hl.1 rfl (Nat.le_of_ble_eq_true rfl) dX6_reel_4 ⟨Nat.le_refl _, Nat.le_refl _⟩ (fun r4 u4 H locs h hP hS => ?_)
  refine lv_if_eq (tgt := 20) hx hb dX6_reel_7 (by decide) (fun hc => ?_) (fun hc => ?_)
  · have h := h.1 hc
    refine lv_iconst (v := (-1 : Int32)) hx hb dX6_reel_20 (by decide) ?_
    exact giret hx hb hr hlocks hK hP hS h dX6_reel_21
  · have h := h.2 hc
    refine lv_iload_n hx hb dX6_reel_10 rfl (lv_at hl 2 rfl) ?_
    refine lv_iconst (v := (2 : Int32)) hx hb dX6_reel_11 (by decide) ?_
    refine lv_bipush (v := (6 : Int32)) hx hb dX6_reel_12 (by decide) ?_
    refine gcallSi (As := [.int p2, .int (2 : Int32), .int (6 : Int32)]) (rest := []) ⟨hx, hb, hml, hown, hts⟩ (c_X6_in l D cI cZ adr A hD p2 (2 : Int32) (6 : Int32) u4 _ h) (va_cwS 3 hts gX6_reel_X6_in rfl rfl rfl (by decide +kernel) ⟨Nat.le_of_ble_eq_true rfl, Nat.le_of_ble_eq_true rfl⟩) hK hP hS rfl hl.1 rfl (Nat.le_of_ble_eq_true rfl) dX6_reel_14 ⟨Nat.le_refl _, Nat.le_refl _⟩ (fun r14 u14 H locs h hP hS => ?_)
    refine lv_if_ne (tgt := 22) hx hb dX6_reel_17 (by decide) (fun hc => ?_) (fun hc => ?_)
    · have h := h.2 hc
      refine lv_aload_n hx hb dX6_reel_22 rfl (lv_at hl 0 rfl) ?_
      refine lv_iload_n hx hb dX6_reel_23 rfl (lv_at hl 1 rfl) ?_
      refine mwp_0_0 (v := p1) hx hb hts hinX6 hown hK hP (hD _) hS (hts (.fieldLink RX6 7 "FilmBenchModel" "high" "I") (by decide +kernel)) dX6_reel_24 (fun H locs hP hS => ?_)
      refine lv_aload_n hx hb dX6_reel_27 rfl (lv_at hl 0 rfl) ?_
      refine lv_iload_n hx hb dX6_reel_28 rfl (lv_at hl 2 rfl) ?_
      refine mwp_0_1 (v := p2) hx hb hts hinX6 hown hK hP (hD _) hS (hts (.fieldLink RX6 13 "FilmBenchModel" "wide" "I") (by decide +kernel)) dX6_reel_29 (fun H locs hP hS => ?_)
      refine lv_aload_n hx hb dX6_reel_32 rfl (lv_at hl 0 rfl) ?_
      refine lv_iconst (v := (0 : Int32)) hx hb dX6_reel_33 (by decide) ?_
      refine mwp_0_2 (v := (0 : Int32)) hx hb hts hinX6 hown hK hP (hD _) hS (hts (.fieldLink RX6 72 "FilmBenchModel" "frames" "I") (by decide +kernel)) dX6_reel_34 (fun H locs hP hS => ?_)
      refine lv_aload_n hx hb dX6_reel_37 rfl (lv_at hl 0 rfl) ?_
      refine lv_iconst (v := (0 : Int32)) hx hb dX6_reel_38 (by decide) ?_
      refine mwp_0_4 (v := (0 : Int32)) hx hb hts hinX6 hown hK hP (hD _) hS (hts (.fieldLink RX6 79 "FilmBenchModel" "layers" "I") (by decide +kernel)) dX6_reel_39 (fun H locs hP hS => ?_)
      refine lv_iload_n hx hb dX6_reel_42 rfl (lv_at hl 1 rfl) ?_
      refine lv_iload_n hx hb dX6_reel_43 rfl (lv_at hl 2 rfl) ?_
      refine lv_imul hx hb dX6_reel_44 ?_
      exact giret hx hb hr hlocks hK hP hS h dX6_reel_45
    · have h := h.1 hc
      refine lv_iconst (v := (-1 : Int32)) hx hb dX6_reel_20 (by decide) ?_
      exact giret hx hb hr hlocks hK hP hS h dX6_reel_21
set_option maxRecDepth 100000 in
set_option maxHeartbeats 4000000 in
theorem c_X6_frame (l : Launch) (D : va_G) (cI cZ : ClassId) (adr : Nat → Nat) (A : Nat → Prop) (hD : ∀ u, va_D A (mw adr cI cZ u))  (u : US) (post : Int32 → US → Prop) (h : wp_X6_frame  u post) : gMi l yX6_frame wsX6_frame 0 D cI cZ (mw adr cI cZ) A [.ref (adr 0)] u post := by
  refine Met.ofW (cc := cX6_frame) (maxL := 2) (ret := (some .int)) (by decide) rfl ?_
  intro p e s m args below meth c s₁ B hml hv
  obtain ⟨rfl, hP, hK⟩ := hv
  have hx := B.exec
  have hb := B.bytes
  have hr := B.returns
  have hts := atoms_spec (ws := wsX6_frame) B.pre
  have hown : s.vm.findClass RX6 = some m.cls := findClass_of_methodNamed B.named
  have hlocks := B.notSynchronized
  have hinX6 : ∀ w ∈ wsX60, w ∈ wsX6_frame := by decide +kernel
  have hS : va_S A s.heap s.heap [] := va_S.rf
  have L14 : ∀ (n : Nat), ∀ (x1 : Int32) (u : US) (H : Heap) (locs : List Loc) (ls : Array Slot), lv_has ls 2 [(0, .ref (adr 0)), (1, .int x1)] → va_P D vwCl (mw adr cI cZ u) H → va_S A s.heap H locs → wp_X6_frame_14  post n x1 u → gWi p l e wsX6_frame 0 s m [.ref (adr 0)] below meth c D cI cZ (mw adr cI cZ) A post H locs (F0 m 14 ls []) := by
    intro  n
    induction n with
    | zero => intro x1 u H locs ls hl hP hS h; exact False.elim h
    | succ n ih =>
      intro x1 u H locs ls hl hP hS h
      refine lv_iload_n hx hb dX6_frame_14 rfl (lv_at hl 1 rfl) ?_
      refine lv_bipush (v := (36 : Int32)) hx hb dX6_frame_15 (by decide) ?_
      refine lv_icmp_ge (tgt := 41) hx hb dX6_frame_17 (by decide) (fun hc => ?_) (fun hc => ?_)
      · have h := h.1 hc
        refine lv_aload_n hx hb dX6_frame_41 rfl (lv_at hl 0 rfl) ?_
        refine lv_dup hx hb dX6_frame_42 rfl ?_
        refine mwg_0_2 (v := (u.1 2)) hx hb hts hinX6 hown hK hP (hts (.fieldLink RX6 72 "FilmBenchModel" "frames" "I") (by decide +kernel)) dX6_frame_43 rfl ?_
        refine lv_iconst (v := (1 : Int32)) hx hb dX6_frame_46 (by decide) ?_
        refine lv_iadd hx hb dX6_frame_47 ?_
        refine mwp_0_2 (v := ((u.1 2) + (1 : Int32))) hx hb hts hinX6 hown hK hP (hD _) hS (hts (.fieldLink RX6 72 "FilmBenchModel" "frames" "I") (by decide +kernel)) dX6_frame_48 (fun H locs hP hS => ?_)
        refine lv_aload_n hx hb dX6_frame_51 rfl (lv_at hl 0 rfl) ?_
        refine mwg_0_2 (v := ((u.1 2) + (1 : Int32))) hx hb hts hinX6 hown hK hP (hts (.fieldLink RX6 72 "FilmBenchModel" "frames" "I") (by decide +kernel)) dX6_frame_52 rfl ?_
        refine lv_iconst (v := (1 : Int32)) hx hb dX6_frame_55 (by decide) ?_
        refine lv_isub hx hb dX6_frame_56 ?_
        exact giret hx hb hr hlocks hK hP hS h dX6_frame_57
      · have h := h.2 hc
        refine lv_aload_n hx hb dX6_frame_20 rfl (lv_at hl 0 rfl) ?_
        refine mwg_0_3 hx hb hts hinX6 hown hK hP (hts (.fieldLink RX6 16 "FilmBenchModel" "raw" "[I") (by decide +kernel)) dX6_frame_21 ?_
        refine lv_bipush (v := (36 : Int32)) hx hb dX6_frame_24 (by decide) ?_
        refine lv_aload_n hx hb dX6_frame_26 rfl (lv_at hl 0 rfl) ?_
        refine mwg_0_2 (v := (u.1 2)) hx hb hts hinX6 hown hK hP (hts (.fieldLink RX6 72 "FilmBenchModel" "frames" "I") (by decide +kernel)) dX6_frame_27 rfl ?_
        refine lv_imul hx hb dX6_frame_30 ?_
        refine lv_iload_n hx hb dX6_frame_31 rfl (lv_at hl 1 rfl) ?_
        refine lv_iadd hx hb dX6_frame_32 ?_
        refine lv_iconst (v := (-1 : Int32)) hx hb dX6_frame_33 (by decide) ?_
        refine mws_3 hx hb hK hP (hD _) hS h.1 dX6_frame_34 (fun H locs hP hS => ?_)
        have h := h.2
        refine lv_iinc (v := (x1 + 1)) (lv' := [(1, .int (x1 + 1)), (0, .ref (adr 0))]) hx hb dX6_frame_35 hl (k := 1) rfl (congrArg (HAdd.hAdd _) (show Int32.ofInt (1) = (1 : Int32) by decide)) (by decide) rfl (fun ls hl => ?_)
        refine lv_goto (tgt := 14) hx hb dX6_frame_38 (by decide) ?_
        exact ih (x1 + 1) (sA u 3 (upd (u.2 3) (((36 : Int32) * (u.1 2)) + x1).toNatClampNeg (-1 : Int32))) _ _ _ (lv_sub hl [1, 0] rfl) hP hS h
  have hl := lv_entry ([.ref (adr 0)]) (n := 2) (Nat.le_of_ble_eq_true rfl)
  rw [lg_entry_eq]
  generalize (lg_sl ([.ref (adr 0)]) ++ List.replicate (2 - (lg_sl ([.ref (adr 0)])).length) Slot.unset).toArray = ls at hl ⊢
  replace hl : lv_has ls 2 [(0, .ref (adr 0))] := hl
  refine lv_aload_n hx hb dX6_frame_0 rfl (lv_at hl 0 rfl) ?_
  refine mwg_0_2 (v := (u.1 2)) hx hb hts hinX6 hown hK hP (hts (.fieldLink RX6 72 "FilmBenchModel" "frames" "I") (by decide +kernel)) dX6_frame_1 rfl ?_
  refine lv_bipush (v := (10 : Int32)) hx hb dX6_frame_4 (by decide) ?_
  refine lv_icmp_ne (tgt := 12) hx hb dX6_frame_6 (by decide) (fun hc => ?_) (fun hc => ?_)
  · have h := h.2 hc
    refine lv_iconst (v := (0 : Int32)) hx hb dX6_frame_12 (by decide) ?_
    refine lv_istore_n (lv' := [(1, .int (0 : Int32)), (0, .ref (adr 0))]) hx hb dX6_frame_13 rfl hl (by decide) rfl (fun ls hl => ?_)
    obtain ⟨n, h⟩ := h
    exact L14  n (0 : Int32) u _ _ _ (lv_sub hl [1, 0] rfl) hP hS h
  · have h := h.1 hc
    refine lv_bipush (v := (-2 : Int32)) hx hb dX6_frame_9 (by decide) ?_
    exact giret hx hb hr hlocks hK hP hS h dX6_frame_11
set_option maxRecDepth 100000 in
set_option maxHeartbeats 4000000 in
theorem c_X6_again (l : Launch) (D : va_G) (cI cZ : ClassId) (adr : Nat → Nat) (A : Nat → Prop) (hD : ∀ u, va_D A (mw adr cI cZ u)) (p1 : Int32) (p2 : Int32) (u : US) (post : Int32 → US → Prop) (h : wp_X6_again p1 p2 u post) : gMi l yX6_again wsX6_again 2 D cI cZ (mw adr cI cZ) A [.ref (adr 0), .int p1, .int p2] u post := by
  refine Met.ofW (cc := cX6_again) (maxL := 6) (ret := (some .int)) (by decide) rfl ?_
  intro p e s m args below meth c s₁ B hml hv
  obtain ⟨rfl, hP, hK⟩ := hv
  have hx := B.exec
  have hb := B.bytes
  have hr := B.returns
  have hts := atoms_spec (ws := wsX6_again) B.pre
  have hown : s.vm.findClass RX6 = some m.cls := findClass_of_methodNamed B.named
  have hlocks := B.notSynchronized
  have hinX6 : ∀ w ∈ wsX60, w ∈ wsX6_again := by decide +kernel
  have hS : va_S A s.heap s.heap [] := va_S.rf
  have L83 : ∀ (k35 : Int32 → Int32 → Int32 → US → Prop) (hk35 : ∀ (x1 : Int32) (x2 : Int32) (x3 : Int32) (u : US) (H : Heap) (locs : List Loc) (ls : Array Slot), lv_has ls 6 [(0, .ref (adr 0)), (1, .int x1), (2, .int x2), (3, .int x3)] → va_P D vwCl (mw adr cI cZ u) H → va_S A s.heap H locs → k35 x1 x2 x3 u → gWi p l e wsX6_again 2 s m [.ref (adr 0), .int p1, .int p2] below meth c D cI cZ (mw adr cI cZ) A post H locs (F0 m 35 ls [])), ∀ (s0 : Int32) (x1 : Int32) (x2 : Int32) (x3 : Int32) (x4 : Int32) (u : US) (H : Heap) (locs : List Loc) (ls : Array Slot), lv_has ls 6 [(0, .ref (adr 0)), (1, .int x1), (2, .int x2), (3, .int x3), (4, .int x4)] → va_P D vwCl (mw adr cI cZ u) H → va_S A s.heap H locs → wp_X6_again_83 k35 post s0 x1 x2 x3 x4 u → gWi p l e wsX6_again 2 s m [.ref (adr 0), .int p1, .int p2] below meth c D cI cZ (mw adr cI cZ) A post H locs (F0 m 83 ls [.int s0]) := by
    intro k35 hk35 s0 x1 x2 x3 x4 u H locs ls hl hP hS h
    refine lv_istore (lv' := [(5, .int s0), (0, .ref (adr 0)), (1, .int x1), (2, .int x2), (3, .int x3), (4, .int x4)]) hx hb dX6_again_83 hl (by decide) rfl (fun ls hl => ?_)
    refine lv_aload_n hx hb dX6_again_85 rfl (lv_at hl 1 rfl) ?_
    refine mwg_0_3 hx hb hts hinX6 hown hK hP (hts (.fieldLink RX6 16 "FilmBenchModel" "raw" "[I") (by decide +kernel)) dX6_again_86 ?_
    refine lv_bipush (v := (36 : Int32)) hx hb dX6_again_89 (by decide) ?_
    refine lv_aload_n hx hb dX6_again_91 rfl (lv_at hl 1 rfl) ?_
    refine mwg_0_2 (v := (u.1 2)) hx hb hts hinX6 hown hK hP (hts (.fieldLink RX6 72 "FilmBenchModel" "frames" "I") (by decide +kernel)) dX6_again_92 rfl ?_
    refine lv_imul hx hb dX6_again_95 ?_
    refine lv_iload_n hx hb dX6_again_96 rfl (lv_at hl 4 rfl) ?_
    refine lv_iadd hx hb dX6_again_97 ?_
    refine lv_iload hx hb dX6_again_98 (lv_at hl 5 rfl) ?_
    refine lv_iconst (v := (-1 : Int32)) hx hb dX6_again_100 (by decide) ?_
    refine lv_icmp_ne (tgt := 108) hx hb dX6_again_101 (by decide) (fun hc => ?_) (fun hc => ?_)
    · have h := h.2 hc
      refine lv_iload hx hb dX6_again_108 (lv_at hl 0 rfl) ?_
      refine mws_3 hx hb hK hP (hD _) hS h.1 dX6_again_110 (fun H locs hP hS => ?_)
      have h := h.2
      refine lv_iinc (v := (x3 + 1)) (lv' := [(3, .int (x3 + 1)), (5, .int s0), (0, .ref (adr 0)), (1, .int x1), (2, .int x2), (4, .int x4)]) hx hb dX6_again_111 hl (k := 4) rfl (congrArg (HAdd.hAdd _) (show Int32.ofInt (1) = (1 : Int32) by decide)) (by decide) rfl (fun ls hl => ?_)
      refine lv_goto (tgt := 35) hx hb dX6_again_114 (by decide) ?_
      exact hk35 x1 x2 (x3 + 1) (sA u 3 (upd (u.2 3) (((36 : Int32) * (u.1 2)) + x3).toNatClampNeg s0)) _ _ _ (lv_sub hl [2, 3, 4, 0] rfl) hP hS h
    · have h := h.1 hc
      refine lv_iconst (v := (-1 : Int32)) hx hb dX6_again_104 (by decide) ?_
      refine lv_goto (tgt := 110) hx hb dX6_again_105 (by decide) ?_
      refine mws_3 hx hb hK hP (hD _) hS h.1 dX6_again_110 (fun H locs hP hS => ?_)
      have h := h.2
      refine lv_iinc (v := (x3 + 1)) (lv' := [(3, .int (x3 + 1)), (5, .int s0), (0, .ref (adr 0)), (1, .int x1), (2, .int x2), (4, .int x4)]) hx hb dX6_again_111 hl (k := 4) rfl (congrArg (HAdd.hAdd _) (show Int32.ofInt (1) = (1 : Int32) by decide)) (by decide) rfl (fun ls hl => ?_)
      refine lv_goto (tgt := 35) hx hb dX6_again_114 (by decide) ?_
      exact hk35 x1 x2 (x3 + 1) (sA u 3 (upd (u.2 3) (((36 : Int32) * (u.1 2)) + x3).toNatClampNeg (-1 : Int32))) _ _ _ (lv_sub hl [2, 3, 4, 0] rfl) hP hS h
  have L35 : ∀ (n : Nat), ∀ (x1 : Int32) (x2 : Int32) (x3 : Int32) (u : US) (H : Heap) (locs : List Loc) (ls : Array Slot), lv_has ls 6 [(0, .ref (adr 0)), (1, .int x1), (2, .int x2), (3, .int x3)] → va_P D vwCl (mw adr cI cZ u) H → va_S A s.heap H locs → wp_X6_again_35  post n x1 x2 x3 u → gWi p l e wsX6_again 2 s m [.ref (adr 0), .int p1, .int p2] below meth c D cI cZ (mw adr cI cZ) A post H locs (F0 m 35 ls []) := by
    intro  n
    induction n with
    | zero => intro x1 x2 x3 u H locs ls hl hP hS h; exact False.elim h
    | succ n ih =>
      intro x1 x2 x3 u H locs ls hl hP hS h
      refine lv_iload_n hx hb dX6_again_35 rfl (lv_at hl 3 rfl) ?_
      refine lv_bipush (v := (36 : Int32)) hx hb dX6_again_36 (by decide) ?_
      refine lv_icmp_ge (tgt := 117) hx hb dX6_again_38 (by decide) (fun hc => ?_) (fun hc => ?_)
      · have h := h.1 hc
        refine lv_aload_n hx hb dX6_again_117 rfl (lv_at hl 0 rfl) ?_
        refine lv_dup hx hb dX6_again_118 rfl ?_
        refine mwg_0_2 (v := (u.1 2)) hx hb hts hinX6 hown hK hP (hts (.fieldLink RX6 72 "FilmBenchModel" "frames" "I") (by decide +kernel)) dX6_again_119 rfl ?_
        refine lv_iconst (v := (1 : Int32)) hx hb dX6_again_122 (by decide) ?_
        refine lv_iadd hx hb dX6_again_123 ?_
        refine mwp_0_2 (v := ((u.1 2) + (1 : Int32))) hx hb hts hinX6 hown hK hP (hD _) hS (hts (.fieldLink RX6 72 "FilmBenchModel" "frames" "I") (by decide +kernel)) dX6_again_124 (fun H locs hP hS => ?_)
        refine lv_aload_n hx hb dX6_again_127 rfl (lv_at hl 0 rfl) ?_
        refine mwg_0_2 (v := ((u.1 2) + (1 : Int32))) hx hb hts hinX6 hown hK hP (hts (.fieldLink RX6 72 "FilmBenchModel" "frames" "I") (by decide +kernel)) dX6_again_128 rfl ?_
        refine lv_iconst (v := (1 : Int32)) hx hb dX6_again_131 (by decide) ?_
        refine lv_isub hx hb dX6_again_132 ?_
        exact giret hx hb hr hlocks hK hP hS h dX6_again_133
      · have h := h.2 hc
        refine lv_aload_n hx hb dX6_again_41 rfl (lv_at hl 0 rfl) ?_
        refine mwg_0_3 hx hb hts hinX6 hown hK hP (hts (.fieldLink RX6 16 "FilmBenchModel" "raw" "[I") (by decide +kernel)) dX6_again_42 ?_
        refine lv_bipush (v := (36 : Int32)) hx hb dX6_again_45 (by decide) ?_
        refine lv_iload_n hx hb dX6_again_47 rfl (lv_at hl 1 rfl) ?_
        refine lv_imul hx hb dX6_again_48 ?_
        refine lv_iload_n hx hb dX6_again_49 rfl (lv_at hl 3 rfl) ?_
        refine lv_iadd hx hb dX6_again_50 ?_
        refine mwl_3 (v := ((u.2 3) (((36 : Int32) * x1) + x3).toNatClampNeg)) hx hb hK hP h.1 dX6_again_51 rfl ?_
        have h := h.2
        refine lv_istore (lv' := [(4, .int ((u.2 3) (((36 : Int32) * x1) + x3).toNatClampNeg)), (0, .ref (adr 0)), (1, .int x1), (2, .int x2), (3, .int x3)]) hx hb dX6_again_52 hl (by decide) rfl (fun ls hl => ?_)
        refine lv_iload hx hb dX6_again_54 (lv_at hl 0 rfl) ?_
        refine lv_iload_n hx hb dX6_again_56 rfl (lv_at hl 3 rfl) ?_
        refine lv_iadd hx hb dX6_again_57 ?_
        refine lv_if_ge (tgt := 65) hx hb dX6_again_58 (by decide) (fun hc => ?_) (fun hc => ?_)
        · have h := h.1 hc
          refine lv_iload hx hb dX6_again_65 (lv_at hl 0 rfl) ?_
          refine lv_iload_n hx hb dX6_again_67 rfl (lv_at hl 3 rfl) ?_
          refine lv_iadd hx hb dX6_again_68 ?_
          refine lv_bipush (v := (63 : Int32)) hx hb dX6_again_69 (by decide) ?_
          refine lv_icmp_le (tgt := 79) hx hb dX6_again_71 (by decide) (fun hc => ?_) (fun hc => ?_)
          · have h := h.1 hc
            refine lv_iload hx hb dX6_again_79 (lv_at hl 0 rfl) ?_
            refine lv_iload_n hx hb dX6_again_81 rfl (lv_at hl 3 rfl) ?_
            refine lv_iadd hx hb dX6_again_82 ?_
            exact L83 _ ih (((u.2 3) (((36 : Int32) * x1) + x3).toNatClampNeg) + x2) x1 x2 x3 ((u.2 3) (((36 : Int32) * x1) + x3).toNatClampNeg) u _ _ _ (lv_sub hl [1, 2, 3, 4, 0] rfl) hP hS h
          · have h := h.2 hc
            refine lv_bipush (v := (63 : Int32)) hx hb dX6_again_74 (by decide) ?_
            refine lv_goto (tgt := 83) hx hb dX6_again_76 (by decide) ?_
            exact L83 _ ih (63 : Int32) x1 x2 x3 ((u.2 3) (((36 : Int32) * x1) + x3).toNatClampNeg) u _ _ _ (lv_sub hl [1, 2, 3, 4, 0] rfl) hP hS h
        · have h := h.2 hc
          refine lv_iconst (v := (0 : Int32)) hx hb dX6_again_61 (by decide) ?_
          refine lv_goto (tgt := 83) hx hb dX6_again_62 (by decide) ?_
          exact L83 _ ih (0 : Int32) x1 x2 x3 ((u.2 3) (((36 : Int32) * x1) + x3).toNatClampNeg) u _ _ _ (lv_sub hl [1, 2, 3, 4, 0] rfl) hP hS h
  have hl := lv_entry ([.ref (adr 0), .int p1, .int p2]) (n := 6) (Nat.le_of_ble_eq_true rfl)
  rw [lg_entry_eq]
  generalize (lg_sl ([.ref (adr 0), .int p1, .int p2]) ++ List.replicate (6 - (lg_sl ([.ref (adr 0), .int p1, .int p2])).length) Slot.unset).toArray = ls at hl ⊢
  replace hl : lv_has ls 6 [(0, .ref (adr 0)), (1, .int p1), (2, .int p2)] := hl
  refine lv_aload_n hx hb dX6_again_0 rfl (lv_at hl 0 rfl) ?_
  refine lv_iload_n hx hb dX6_again_1 rfl (lv_at hl 1 rfl) ?_
  refine gcallVi (As := [.int p1]) (rest := []) ⟨hx, hb, hml, hown, hts⟩ (c_X6_isFrame l D cI cZ adr A hD p1 u _ h) (cwV 1 hts gX6_again_X6_isFrame rfl rfl rfl (by decide +kernel) ⟨Nat.le_of_ble_eq_true rfl, Nat.le_of_ble_eq_true rfl⟩) (va_recv hK hP (ci := 6) (q0 := 0) rfl rfl) hK hP hS rfl hl.1 rfl (Nat.le_of_ble_eq_true rfl) dX6_again_2 ⟨Nat.le_refl _, Nat.le_refl _⟩ (fun r2 u2 H locs h hP hS => ?_)
  refine lv_if_eq (tgt := 19) hx hb dX6_again_5 (by decide) (fun hc => ?_) (fun hc => ?_)
  · have h := h.1 hc
    refine lv_iconst (v := (-1 : Int32)) hx hb dX6_again_19 (by decide) ?_
    exact giret hx hb hr hlocks hK hP hS h dX6_again_20
  · have h := h.2 hc
    refine lv_iload_n hx hb dX6_again_8 rfl (lv_at hl 2 rfl) ?_
    refine lv_bipush (v := (-63 : Int32)) hx hb dX6_again_9 (by decide) ?_
    refine lv_bipush (v := (63 : Int32)) hx hb dX6_again_11 (by decide) ?_
    refine gcallSi (As := [.int p2, .int (-63 : Int32), .int (63 : Int32)]) (rest := []) ⟨hx, hb, hml, hown, hts⟩ (c_X6_in l D cI cZ adr A hD p2 (-63 : Int32) (63 : Int32) u2 _ h) (va_cwS 3 hts gX6_again_X6_in rfl rfl rfl (by decide +kernel) ⟨Nat.le_of_ble_eq_true rfl, Nat.le_of_ble_eq_true rfl⟩) hK hP hS rfl hl.1 rfl (Nat.le_of_ble_eq_true rfl) dX6_again_13 ⟨Nat.le_refl _, Nat.le_refl _⟩ (fun r13 u13 H locs h hP hS => ?_)
    refine lv_if_ne (tgt := 21) hx hb dX6_again_16 (by decide) (fun hc => ?_) (fun hc => ?_)
    · have h := h.2 hc
      refine lv_aload_n hx hb dX6_again_21 rfl (lv_at hl 0 rfl) ?_
      refine mwg_0_2 (v := (u13.1 2)) hx hb hts hinX6 hown hK hP (hts (.fieldLink RX6 72 "FilmBenchModel" "frames" "I") (by decide +kernel)) dX6_again_22 rfl ?_
      refine lv_bipush (v := (10 : Int32)) hx hb dX6_again_25 (by decide) ?_
      refine lv_icmp_ne (tgt := 33) hx hb dX6_again_27 (by decide) (fun hc => ?_) (fun hc => ?_)
      · have h := h.2 hc
        refine lv_iconst (v := (0 : Int32)) hx hb dX6_again_33 (by decide) ?_
        refine lv_istore_n (lv' := [(3, .int (0 : Int32)), (0, .ref (adr 0)), (1, .int p1), (2, .int p2)]) hx hb dX6_again_34 rfl hl (by decide) rfl (fun ls hl => ?_)
        obtain ⟨n, h⟩ := h
        exact L35  n p1 p2 (0 : Int32) u13 _ _ _ (lv_sub hl [1, 2, 3, 0] rfl) hP hS h
      · have h := h.1 hc
        refine lv_bipush (v := (-2 : Int32)) hx hb dX6_again_30 (by decide) ?_
        exact giret hx hb hr hlocks hK hP hS h dX6_again_32
    · have h := h.1 hc
      refine lv_iconst (v := (-1 : Int32)) hx hb dX6_again_19 (by decide) ?_
      exact giret hx hb hr hlocks hK hP hS h dX6_again_20
set_option maxRecDepth 100000 in
set_option maxHeartbeats 4000000 in
theorem c_X6_put (l : Launch) (D : va_G) (cI cZ : ClassId) (adr : Nat → Nat) (A : Nat → Prop) (hD : ∀ u, va_D A (mw adr cI cZ u)) (p1 : Int32) (p2 : Int32) (p3 : Int32) (p4 : Int32) (u : US) (post : Int32 → US → Prop) (h : wp_X6_put p1 p2 p3 p4 u post) : gMi l yX6_put wsX6_put 2 D cI cZ (mw adr cI cZ) A [.ref (adr 0), .int p1, .int p2, .int p3, .int p4] u post := by
  refine Met.ofW (cc := cX6_put) (maxL := 6) (ret := (some .int)) (by decide) rfl ?_
  intro p e s m args below meth c s₁ B hml hv
  obtain ⟨rfl, hP, hK⟩ := hv
  have hx := B.exec
  have hb := B.bytes
  have hr := B.returns
  have hts := atoms_spec (ws := wsX6_put) B.pre
  have hown : s.vm.findClass RX6 = some m.cls := findClass_of_methodNamed B.named
  have hlocks := B.notSynchronized
  have hinX6 : ∀ w ∈ wsX60, w ∈ wsX6_put := by decide +kernel
  have hS : va_S A s.heap s.heap [] := va_S.rf
  have hl := lv_entry ([.ref (adr 0), .int p1, .int p2, .int p3, .int p4]) (n := 6) (Nat.le_of_ble_eq_true rfl)
  rw [lg_entry_eq]
  generalize (lg_sl ([.ref (adr 0), .int p1, .int p2, .int p3, .int p4]) ++ List.replicate (6 - (lg_sl ([.ref (adr 0), .int p1, .int p2, .int p3, .int p4])).length) Slot.unset).toArray = ls at hl ⊢
  replace hl : lv_has ls 6 [(0, .ref (adr 0)), (1, .int p1), (2, .int p2), (3, .int p3), (4, .int p4)] := hl
  refine lv_aload_n hx hb dX6_put_0 rfl (lv_at hl 0 rfl) ?_
  refine lv_iload_n hx hb dX6_put_1 rfl (lv_at hl 1 rfl) ?_
  refine gcallVi (As := [.int p1]) (rest := []) ⟨hx, hb, hml, hown, hts⟩ (c_X6_isFrame l D cI cZ adr A hD p1 u _ h) (cwV 1 hts gX6_put_X6_isFrame rfl rfl rfl (by decide +kernel) ⟨Nat.le_of_ble_eq_true rfl, Nat.le_of_ble_eq_true rfl⟩) (va_recv hK hP (ci := 6) (q0 := 0) rfl rfl) hK hP hS rfl hl.1 rfl (Nat.le_of_ble_eq_true rfl) dX6_put_2 ⟨Nat.le_refl _, Nat.le_refl _⟩ (fun r2 u2 H locs h hP hS => ?_)
  refine lv_if_eq (tgt := 28) hx hb dX6_put_5 (by decide) (fun hc => ?_) (fun hc => ?_)
  · have h := h.1 hc
    refine lv_sipush (v := (-1000 : Int32)) hx hb dX6_put_28 (by decide) ?_
    exact giret hx hb hr hlocks hK hP hS h dX6_put_31
  · have h := h.2 hc
    refine lv_aload_n hx hb dX6_put_8 rfl (lv_at hl 0 rfl) ?_
    refine lv_iload_n hx hb dX6_put_9 rfl (lv_at hl 2 rfl) ?_
    refine lv_iload_n hx hb dX6_put_10 rfl (lv_at hl 3 rfl) ?_
    refine gcallVi (As := [.int p2, .int p3]) (rest := []) ⟨hx, hb, hml, hown, hts⟩ (c_X6_isSquare l D cI cZ adr A hD p2 p3 u2 _ h) (cwV 2 hts gX6_put_X6_isSquare rfl rfl rfl (by decide +kernel) ⟨Nat.le_of_ble_eq_true rfl, Nat.le_of_ble_eq_true rfl⟩) (va_recv hK hP (ci := 6) (q0 := 0) rfl rfl) hK hP hS rfl hl.1 rfl (Nat.le_of_ble_eq_true rfl) dX6_put_11 ⟨Nat.le_refl _, Nat.le_refl _⟩ (fun r11 u11 H locs h hP hS => ?_)
    refine lv_if_eq (tgt := 28) hx hb dX6_put_14 (by decide) (fun hc => ?_) (fun hc => ?_)
    · have h := h.1 hc
      refine lv_sipush (v := (-1000 : Int32)) hx hb dX6_put_28 (by decide) ?_
      exact giret hx hb hr hlocks hK hP hS h dX6_put_31
    · have h := h.2 hc
      refine lv_iload hx hb dX6_put_17 (lv_at hl 4 rfl) ?_
      refine lv_iconst (v := (-1 : Int32)) hx hb dX6_put_19 (by decide) ?_
      refine lv_bipush (v := (63 : Int32)) hx hb dX6_put_20 (by decide) ?_
      refine gcallSi (As := [.int p4, .int (-1 : Int32), .int (63 : Int32)]) (rest := []) ⟨hx, hb, hml, hown, hts⟩ (c_X6_in l D cI cZ adr A hD p4 (-1 : Int32) (63 : Int32) u11 _ h) (va_cwS 3 hts gX6_put_X6_in rfl rfl rfl (by decide +kernel) ⟨Nat.le_of_ble_eq_true rfl, Nat.le_of_ble_eq_true rfl⟩) hK hP hS rfl hl.1 rfl (Nat.le_of_ble_eq_true rfl) dX6_put_22 ⟨Nat.le_refl _, Nat.le_refl _⟩ (fun r22 u22 H locs h hP hS => ?_)
      refine lv_if_ne (tgt := 32) hx hb dX6_put_25 (by decide) (fun hc => ?_) (fun hc => ?_)
      · have h := h.2 hc
        refine lv_aload_n hx hb dX6_put_32 rfl (lv_at hl 0 rfl) ?_
        refine mwg_0_3 hx hb hts hinX6 hown hK hP (hts (.fieldLink RX6 16 "FilmBenchModel" "raw" "[I") (by decide +kernel)) dX6_put_33 ?_
        refine lv_aload_n hx hb dX6_put_36 rfl (lv_at hl 0 rfl) ?_
        refine lv_iload_n hx hb dX6_put_37 rfl (lv_at hl 1 rfl) ?_
        refine lv_iload_n hx hb dX6_put_38 rfl (lv_at hl 2 rfl) ?_
        refine lv_iload_n hx hb dX6_put_39 rfl (lv_at hl 3 rfl) ?_
        refine gcallVi (As := [.int p1, .int p2, .int p3]) (rest := [.ref (adr 3)]) ⟨hx, hb, hml, hown, hts⟩ (c_X6_at l D cI cZ adr A hD p1 p2 p3 u22 _ h) (cwV 3 hts gX6_put_X6_at rfl rfl rfl (by decide +kernel) ⟨Nat.le_of_ble_eq_true rfl, Nat.le_of_ble_eq_true rfl⟩) (va_recv hK hP (ci := 6) (q0 := 0) rfl rfl) hK hP hS rfl hl.1 rfl (Nat.le_of_ble_eq_true rfl) dX6_put_40 ⟨Nat.le_refl _, Nat.le_refl _⟩ (fun r40 u40 H locs h hP hS => ?_)
        refine mwl_3 (v := ((u40.2 3) r40.toNatClampNeg)) hx hb hK hP h.1 dX6_put_43 rfl ?_
        have h := h.2
        refine lv_istore (lv' := [(5, .int ((u40.2 3) r40.toNatClampNeg)), (0, .ref (adr 0)), (1, .int p1), (2, .int p2), (3, .int p3), (4, .int p4)]) hx hb dX6_put_44 hl (by decide) rfl (fun ls hl => ?_)
        refine lv_aload_n hx hb dX6_put_46 rfl (lv_at hl 1 rfl) ?_
        refine mwg_0_3 hx hb hts hinX6 hown hK hP (hts (.fieldLink RX6 16 "FilmBenchModel" "raw" "[I") (by decide +kernel)) dX6_put_47 ?_
        refine lv_aload_n hx hb dX6_put_50 rfl (lv_at hl 1 rfl) ?_
        refine lv_iload_n hx hb dX6_put_51 rfl (lv_at hl 2 rfl) ?_
        refine lv_iload_n hx hb dX6_put_52 rfl (lv_at hl 3 rfl) ?_
        refine lv_iload_n hx hb dX6_put_53 rfl (lv_at hl 4 rfl) ?_
        refine gcallVi (As := [.int p1, .int p2, .int p3]) (rest := [.ref (adr 3)]) ⟨hx, hb, hml, hown, hts⟩ (c_X6_at l D cI cZ adr A hD p1 p2 p3 u40 _ h) (cwV 3 hts gX6_put_X6_at rfl rfl rfl (by decide +kernel) ⟨Nat.le_of_ble_eq_true rfl, Nat.le_of_ble_eq_true rfl⟩) (va_recv hK hP (ci := 6) (q0 := 0) rfl rfl) hK hP hS rfl hl.1 rfl (Nat.le_of_ble_eq_true rfl) dX6_put_54 ⟨Nat.le_refl _, Nat.le_refl _⟩ (fun r54 u54 H locs h hP hS => ?_)
        refine lv_iload hx hb dX6_put_57 (lv_at hl 5 rfl) ?_
        refine mws_3 hx hb hK hP (hD _) hS h.1 dX6_put_59 (fun H locs hP hS => ?_)
        have h := h.2
        refine lv_iload hx hb dX6_put_60 (lv_at hl 0 rfl) ?_
        exact giret hx hb hr hlocks hK hP hS h dX6_put_62
      · have h := h.1 hc
        refine lv_sipush (v := (-1000 : Int32)) hx hb dX6_put_28 (by decide) ?_
        exact giret hx hb hr hlocks hK hP hS h dX6_put_31
set_option maxRecDepth 100000 in
set_option maxHeartbeats 4000000 in
theorem c_X6_row (l : Launch) (D : va_G) (cI cZ : ClassId) (adr : Nat → Nat) (A : Nat → Prop) (hD : ∀ u, va_D A (mw adr cI cZ u)) (p1 : Int32) (p2 : Int32) (p3 : Int64) (u : US) (post : Int32 → US → Prop) (h : wp_X6_row p1 p2 p3 u post) : gMi l yX6_row wsX6_row 2 D cI cZ (mw adr cI cZ) A [.ref (adr 0), .int p1, .int p2, .long p3] u post := by
  refine Met.ofW (cc := cX6_row) (maxL := 8) (ret := (some .int)) (by decide) rfl ?_
  intro p e s m args below meth c s₁ B hml hv
  obtain ⟨rfl, hP, hK⟩ := hv
  have hx := B.exec
  have hb := B.bytes
  have hr := B.returns
  have hts := atoms_spec (ws := wsX6_row) B.pre
  have hown : s.vm.findClass RX6 = some m.cls := findClass_of_methodNamed B.named
  have hlocks := B.notSynchronized
  have hinX6 : ∀ w ∈ wsX60, w ∈ wsX6_row := by decide +kernel
  have hS : va_S A s.heap s.heap [] := va_S.rf
  have L78 : ∀ (k30 : Int32 → Int32 → Int64 → Int32 → Int32 → US → Prop) (hk30 : ∀ (x1 : Int32) (x2 : Int32) (x3 : Int64) (x5 : Int32) (x6 : Int32) (u : US) (H : Heap) (locs : List Loc) (ls : Array Slot), lv_has ls 8 [(0, .ref (adr 0)), (1, .int x1), (2, .int x2), (3, .long x3), (5, .int x5), (6, .int x6)] → va_P D vwCl (mw adr cI cZ u) H → va_S A s.heap H locs → k30 x1 x2 x3 x5 x6 u → gWi p l e wsX6_row 2 s m [.ref (adr 0), .int p1, .int p2, .long p3] below meth c D cI cZ (mw adr cI cZ) A post H locs (F0 m 30 ls [])), ∀ (s0 : Int32) (s1 : Int32) (x1 : Int32) (x2 : Int32) (x3 : Int64) (x5 : Int32) (x6 : Int32) (x7 : Int32) (u : US) (H : Heap) (locs : List Loc) (ls : Array Slot), lv_has ls 8 [(0, .ref (adr 0)), (1, .int x1), (2, .int x2), (3, .long x3), (5, .int x5), (6, .int x6), (7, .int x7)] → va_P D vwCl (mw adr cI cZ u) H → va_S A s.heap H locs → wp_X6_row_78 k30 post s0 s1 x1 x2 x3 x5 x6 x7 u → gWi p l e wsX6_row 2 s m [.ref (adr 0), .int p1, .int p2, .long p3] below meth c D cI cZ (mw adr cI cZ) A post H locs (F0 m 78 ls [.int s0, .int s1, .ref (adr 3)]) := by
    intro k30 hk30 s0 s1 x1 x2 x3 x5 x6 x7 u H locs ls hl hP hS h
    refine mws_3 hx hb hK hP (hD _) hS h.1 dX6_row_78 (fun H locs hP hS => ?_)
    have h := h.2
    refine lv_iload hx hb dX6_row_79 (lv_at hl 4 rfl) ?_
    refine lv_iload hx hb dX6_row_81 (lv_at hl 6 rfl) ?_
    refine lv_bipush (v := (64 : Int32)) hx hb dX6_row_83 (by decide) ?_
    refine lv_icmp_ge (tgt := 92) hx hb dX6_row_85 (by decide) (fun hc => ?_) (fun hc => ?_)
    · have h := h.1 hc
      refine lv_iconst (v := (0 : Int32)) hx hb dX6_row_92 (by decide) ?_
      refine lv_iadd hx hb dX6_row_93 ?_
      refine lv_istore (lv' := [(5, .int (x5 + (0 : Int32))), (0, .ref (adr 0)), (1, .int x1), (2, .int x2), (3, .long x3), (6, .int x6), (7, .int x7)]) hx hb dX6_row_94 hl (by decide) rfl (fun ls hl => ?_)
      refine lv_iinc (v := (x6 + 1)) (lv' := [(6, .int (x6 + 1)), (5, .int (x5 + (0 : Int32))), (0, .ref (adr 0)), (1, .int x1), (2, .int x2), (3, .long x3), (7, .int x7)]) hx hb dX6_row_96 hl (k := 5) rfl (congrArg (HAdd.hAdd _) (show Int32.ofInt (1) = (1 : Int32) by decide)) (by decide) rfl (fun ls hl => ?_)
      refine lv_goto (tgt := 30) hx hb dX6_row_99 (by decide) ?_
      exact hk30 x1 x2 x3 (x5 + (0 : Int32)) (x6 + 1) (sA u 3 (upd (u.2 3) s1.toNatClampNeg s0)) _ _ _ (lv_sub hl [2, 3, 4, 5, 1, 0] rfl) hP hS h
    · have h := h.2 hc
      refine lv_iconst (v := (1 : Int32)) hx hb dX6_row_88 (by decide) ?_
      refine lv_goto (tgt := 93) hx hb dX6_row_89 (by decide) ?_
      refine lv_iadd hx hb dX6_row_93 ?_
      refine lv_istore (lv' := [(5, .int (x5 + (1 : Int32))), (0, .ref (adr 0)), (1, .int x1), (2, .int x2), (3, .long x3), (6, .int x6), (7, .int x7)]) hx hb dX6_row_94 hl (by decide) rfl (fun ls hl => ?_)
      refine lv_iinc (v := (x6 + 1)) (lv' := [(6, .int (x6 + 1)), (5, .int (x5 + (1 : Int32))), (0, .ref (adr 0)), (1, .int x1), (2, .int x2), (3, .long x3), (7, .int x7)]) hx hb dX6_row_96 hl (k := 5) rfl (congrArg (HAdd.hAdd _) (show Int32.ofInt (1) = (1 : Int32) by decide)) (by decide) rfl (fun ls hl => ?_)
      refine lv_goto (tgt := 30) hx hb dX6_row_99 (by decide) ?_
      exact hk30 x1 x2 x3 (x5 + (1 : Int32)) (x6 + 1) (sA u 3 (upd (u.2 3) s1.toNatClampNeg s0)) _ _ _ (lv_sub hl [2, 3, 4, 5, 1, 0] rfl) hP hS h
  have L30 : ∀ (n : Nat), ∀ (x1 : Int32) (x2 : Int32) (x3 : Int64) (x5 : Int32) (x6 : Int32) (u : US) (H : Heap) (locs : List Loc) (ls : Array Slot), lv_has ls 8 [(0, .ref (adr 0)), (1, .int x1), (2, .int x2), (3, .long x3), (5, .int x5), (6, .int x6)] → va_P D vwCl (mw adr cI cZ u) H → va_S A s.heap H locs → wp_X6_row_30  post n x1 x2 x3 x5 x6 u → gWi p l e wsX6_row 2 s m [.ref (adr 0), .int p1, .int p2, .long p3] below meth c D cI cZ (mw adr cI cZ) A post H locs (F0 m 30 ls []) := by
    intro  n
    induction n with
    | zero => intro x1 x2 x3 x5 x6 u H locs ls hl hP hS h; exact False.elim h
    | succ n ih =>
      intro x1 x2 x3 x5 x6 u H locs ls hl hP hS h
      refine lv_iload hx hb dX6_row_30 (lv_at hl 5 rfl) ?_
      refine lv_aload_n hx hb dX6_row_32 rfl (lv_at hl 0 rfl) ?_
      refine mwg_0_1 (v := (u.1 1)) hx hb hts hinX6 hown hK hP (hts (.fieldLink RX6 13 "FilmBenchModel" "wide" "I") (by decide +kernel)) dX6_row_33 rfl ?_
      refine lv_icmp_ge (tgt := 102) hx hb dX6_row_36 (by decide) (fun hc => ?_) (fun hc => ?_)
      · have h := h.1 hc
        refine lv_iload hx hb dX6_row_102 (lv_at hl 4 rfl) ?_
        exact giret hx hb hr hlocks hK hP hS h dX6_row_104
      · have h := h.2 hc
        refine lv_lload_n hx hb dX6_row_39 rfl (lv_at hl 3 rfl) ?_
        refine lv_bipush (v := (7 : Int32)) hx hb dX6_row_40 (by decide) ?_
        refine lv_iload hx hb dX6_row_42 (lv_at hl 5 rfl) ?_
        refine lv_imul hx hb dX6_row_44 ?_
        refine lv_lshr hx hb dX6_row_45 rfl ?_
        refine lv_ldc2 (v := 127) hx hb hown (hts (.constantLong RX6 94 127) (by decide +kernel)) dX6_row_46 ?_
        refine lv_land hx hb dX6_row_49 ?_
        refine lv_l2i hx hb dX6_row_50 rfl ?_
        refine lv_istore (lv' := [(7, .int (((x3 >>> (((7 : Int32) * x6).toInt64 &&& 63)) &&& (127 : Int64))).toInt32), (0, .ref (adr 0)), (1, .int x1), (2, .int x2), (3, .long x3), (5, .int x5), (6, .int x6)]) hx hb dX6_row_51 hl (by decide) rfl (fun ls hl => ?_)
        refine lv_aload_n hx hb dX6_row_53 rfl (lv_at hl 1 rfl) ?_
        refine mwg_0_3 hx hb hts hinX6 hown hK hP (hts (.fieldLink RX6 16 "FilmBenchModel" "raw" "[I") (by decide +kernel)) dX6_row_54 ?_
        refine lv_aload_n hx hb dX6_row_57 rfl (lv_at hl 1 rfl) ?_
        refine lv_iload_n hx hb dX6_row_58 rfl (lv_at hl 2 rfl) ?_
        refine lv_iload_n hx hb dX6_row_59 rfl (lv_at hl 3 rfl) ?_
        refine lv_iload hx hb dX6_row_60 (lv_at hl 6 rfl) ?_
        refine gcallVi (As := [.int x1, .int x2, .int x6]) (rest := [.ref (adr 3)]) ⟨hx, hb, hml, hown, hts⟩ (c_X6_at l D cI cZ adr A hD x1 x2 x6 u _ h) (cwV 3 hts gX6_row_X6_at rfl rfl rfl (by decide +kernel) ⟨Nat.le_of_ble_eq_true rfl, Nat.le_of_ble_eq_true rfl⟩) (va_recv hK hP (ci := 6) (q0 := 0) rfl rfl) hK hP hS rfl hl.1 rfl (Nat.le_of_ble_eq_true rfl) dX6_row_62 ⟨Nat.le_refl _, Nat.le_refl _⟩ (fun r62 u62 H locs h hP hS => ?_)
        refine lv_iload hx hb dX6_row_65 (lv_at hl 0 rfl) ?_
        refine lv_bipush (v := (64 : Int32)) hx hb dX6_row_67 (by decide) ?_
        refine lv_icmp_ge (tgt := 77) hx hb dX6_row_69 (by decide) (fun hc => ?_) (fun hc => ?_)
        · have h := h.1 hc
          refine lv_iconst (v := (-1 : Int32)) hx hb dX6_row_77 (by decide) ?_
          exact L78 _ ih (-1 : Int32) r62 x1 x2 x3 x5 x6 (((x3 >>> (((7 : Int32) * x6).toInt64 &&& 63)) &&& (127 : Int64))).toInt32 u62 _ _ _ (lv_sub hl [1, 2, 3, 4, 5, 6, 0] rfl) hP hS h
        · have h := h.2 hc
          refine lv_iload hx hb dX6_row_72 (lv_at hl 0 rfl) ?_
          refine lv_goto (tgt := 78) hx hb dX6_row_74 (by decide) ?_
          exact L78 _ ih (((x3 >>> (((7 : Int32) * x6).toInt64 &&& 63)) &&& (127 : Int64))).toInt32 r62 x1 x2 x3 x5 x6 (((x3 >>> (((7 : Int32) * x6).toInt64 &&& 63)) &&& (127 : Int64))).toInt32 u62 _ _ _ (lv_sub hl [1, 2, 3, 4, 5, 6, 0] rfl) hP hS h
  have hl := lv_entry ([.ref (adr 0), .int p1, .int p2, .long p3]) (n := 8) (Nat.le_of_ble_eq_true rfl)
  rw [lg_entry_eq]
  generalize (lg_sl ([.ref (adr 0), .int p1, .int p2, .long p3]) ++ List.replicate (8 - (lg_sl ([.ref (adr 0), .int p1, .int p2, .long p3])).length) Slot.unset).toArray = ls at hl ⊢
  replace hl : lv_has ls 8 [(0, .ref (adr 0)), (1, .int p1), (2, .int p2), (3, .long p3)] := hl
  refine lv_aload_n hx hb dX6_row_0 rfl (lv_at hl 0 rfl) ?_
  refine lv_iload_n hx hb dX6_row_1 rfl (lv_at hl 1 rfl) ?_
  refine gcallVi (As := [.int p1]) (rest := []) ⟨hx, hb, hml, hown, hts⟩ (c_X6_isFrame l D cI cZ adr A hD p1 u _ h) (cwV 1 hts gX6_row_X6_isFrame rfl rfl rfl (by decide +kernel) ⟨Nat.le_of_ble_eq_true rfl, Nat.le_of_ble_eq_true rfl⟩) (va_recv hK hP (ci := 6) (q0 := 0) rfl rfl) hK hP hS rfl hl.1 rfl (Nat.le_of_ble_eq_true rfl) dX6_row_2 ⟨Nat.le_refl _, Nat.le_refl _⟩ (fun r2 u2 H locs h hP hS => ?_)
  refine lv_if_eq (tgt := 22) hx hb dX6_row_5 (by decide) (fun hc => ?_) (fun hc => ?_)
  · have h := h.1 hc
    refine lv_iconst (v := (-1 : Int32)) hx hb dX6_row_22 (by decide) ?_
    exact giret hx hb hr hlocks hK hP hS h dX6_row_23
  · have h := h.2 hc
    refine lv_iload_n hx hb dX6_row_8 rfl (lv_at hl 2 rfl) ?_
    refine lv_iconst (v := (0 : Int32)) hx hb dX6_row_9 (by decide) ?_
    refine lv_aload_n hx hb dX6_row_10 rfl (lv_at hl 0 rfl) ?_
    refine mwg_0_0 (v := (u2.1 0)) hx hb hts hinX6 hown hK hP (hts (.fieldLink RX6 7 "FilmBenchModel" "high" "I") (by decide +kernel)) dX6_row_11 rfl ?_
    refine lv_iconst (v := (1 : Int32)) hx hb dX6_row_14 (by decide) ?_
    refine lv_isub hx hb dX6_row_15 ?_
    refine gcallSi (As := [.int p2, .int (0 : Int32), .int ((u2.1 0) - (1 : Int32))]) (rest := []) ⟨hx, hb, hml, hown, hts⟩ (c_X6_in l D cI cZ adr A hD p2 (0 : Int32) ((u2.1 0) - (1 : Int32)) u2 _ h) (va_cwS 3 hts gX6_row_X6_in rfl rfl rfl (by decide +kernel) ⟨Nat.le_of_ble_eq_true rfl, Nat.le_of_ble_eq_true rfl⟩) hK hP hS rfl hl.1 rfl (Nat.le_of_ble_eq_true rfl) dX6_row_16 ⟨Nat.le_refl _, Nat.le_refl _⟩ (fun r16 u16 H locs h hP hS => ?_)
    refine lv_if_ne (tgt := 24) hx hb dX6_row_19 (by decide) (fun hc => ?_) (fun hc => ?_)
    · have h := h.2 hc
      refine lv_iconst (v := (0 : Int32)) hx hb dX6_row_24 (by decide) ?_
      refine lv_istore (lv' := [(5, .int (0 : Int32)), (0, .ref (adr 0)), (1, .int p1), (2, .int p2), (3, .long p3)]) hx hb dX6_row_25 hl (by decide) rfl (fun ls hl => ?_)
      refine lv_iconst (v := (0 : Int32)) hx hb dX6_row_27 (by decide) ?_
      refine lv_istore (lv' := [(6, .int (0 : Int32)), (5, .int (0 : Int32)), (0, .ref (adr 0)), (1, .int p1), (2, .int p2), (3, .long p3)]) hx hb dX6_row_28 hl (by decide) rfl (fun ls hl => ?_)
      obtain ⟨n, h⟩ := h
      exact L30  n p1 p2 p3 (0 : Int32) (0 : Int32) u16 _ _ _ (lv_sub hl [2, 3, 4, 5, 1, 0] rfl) hP hS h
    · have h := h.1 hc
      refine lv_iconst (v := (-1 : Int32)) hx hb dX6_row_22 (by decide) ?_
      exact giret hx hb hr hlocks hK hP hS h dX6_row_23
set_option maxRecDepth 100000 in
set_option maxHeartbeats 4000000 in
theorem c_X6_raw (l : Launch) (D : va_G) (cI cZ : ClassId) (adr : Nat → Nat) (A : Nat → Prop) (hD : ∀ u, va_D A (mw adr cI cZ u)) (p1 : Int32) (p2 : Int32) (p3 : Int32) (u : US) (post : Int32 → US → Prop) (h : wp_X6_raw p1 p2 p3 u post) : gMi l yX6_raw wsX6_raw 2 D cI cZ (mw adr cI cZ) A [.ref (adr 0), .int p1, .int p2, .int p3] u post := by
  refine Met.ofW (cc := cX6_raw) (maxL := 4) (ret := (some .int)) (by decide) rfl ?_
  intro p e s m args below meth c s₁ B hml hv
  obtain ⟨rfl, hP, hK⟩ := hv
  have hx := B.exec
  have hb := B.bytes
  have hr := B.returns
  have hts := atoms_spec (ws := wsX6_raw) B.pre
  have hown : s.vm.findClass RX6 = some m.cls := findClass_of_methodNamed B.named
  have hlocks := B.notSynchronized
  have hinX6 : ∀ w ∈ wsX60, w ∈ wsX6_raw := by decide +kernel
  have hS : va_S A s.heap s.heap [] := va_S.rf
  have hl := lv_entry ([.ref (adr 0), .int p1, .int p2, .int p3]) (n := 4) (Nat.le_of_ble_eq_true rfl)
  rw [lg_entry_eq]
  generalize (lg_sl ([.ref (adr 0), .int p1, .int p2, .int p3]) ++ List.replicate (4 - (lg_sl ([.ref (adr 0), .int p1, .int p2, .int p3])).length) Slot.unset).toArray = ls at hl ⊢
  replace hl : lv_has ls 4 [(0, .ref (adr 0)), (1, .int p1), (2, .int p2), (3, .int p3)] := hl
  refine lv_aload_n hx hb dX6_raw_0 rfl (lv_at hl 0 rfl) ?_
  refine lv_iload_n hx hb dX6_raw_1 rfl (lv_at hl 1 rfl) ?_
  refine gcallVi (As := [.int p1]) (rest := []) ⟨hx, hb, hml, hown, hts⟩ (c_X6_isFrame l D cI cZ adr A hD p1 u _ h) (cwV 1 hts gX6_raw_X6_isFrame rfl rfl rfl (by decide +kernel) ⟨Nat.le_of_ble_eq_true rfl, Nat.le_of_ble_eq_true rfl⟩) (va_recv hK hP (ci := 6) (q0 := 0) rfl rfl) hK hP hS rfl hl.1 rfl (Nat.le_of_ble_eq_true rfl) dX6_raw_2 ⟨Nat.le_refl _, Nat.le_refl _⟩ (fun r2 u2 H locs h hP hS => ?_)
  refine lv_if_eq (tgt := 32) hx hb dX6_raw_5 (by decide) (fun hc => ?_) (fun hc => ?_)
  · have h := h.1 hc
    refine lv_sipush (v := (-1000 : Int32)) hx hb dX6_raw_32 (by decide) ?_
    exact giret hx hb hr hlocks hK hP hS h dX6_raw_35
  · have h := h.2 hc
    refine lv_aload_n hx hb dX6_raw_8 rfl (lv_at hl 0 rfl) ?_
    refine lv_iload_n hx hb dX6_raw_9 rfl (lv_at hl 2 rfl) ?_
    refine lv_iload_n hx hb dX6_raw_10 rfl (lv_at hl 3 rfl) ?_
    refine gcallVi (As := [.int p2, .int p3]) (rest := []) ⟨hx, hb, hml, hown, hts⟩ (c_X6_isSquare l D cI cZ adr A hD p2 p3 u2 _ h) (cwV 2 hts gX6_raw_X6_isSquare rfl rfl rfl (by decide +kernel) ⟨Nat.le_of_ble_eq_true rfl, Nat.le_of_ble_eq_true rfl⟩) (va_recv hK hP (ci := 6) (q0 := 0) rfl rfl) hK hP hS rfl hl.1 rfl (Nat.le_of_ble_eq_true rfl) dX6_raw_11 ⟨Nat.le_refl _, Nat.le_refl _⟩ (fun r11 u11 H locs h hP hS => ?_)
    refine lv_if_eq (tgt := 32) hx hb dX6_raw_14 (by decide) (fun hc => ?_) (fun hc => ?_)
    · have h := h.1 hc
      refine lv_sipush (v := (-1000 : Int32)) hx hb dX6_raw_32 (by decide) ?_
      exact giret hx hb hr hlocks hK hP hS h dX6_raw_35
    · have h := h.2 hc
      refine lv_aload_n hx hb dX6_raw_17 rfl (lv_at hl 0 rfl) ?_
      refine mwg_0_3 hx hb hts hinX6 hown hK hP (hts (.fieldLink RX6 16 "FilmBenchModel" "raw" "[I") (by decide +kernel)) dX6_raw_18 ?_
      refine lv_aload_n hx hb dX6_raw_21 rfl (lv_at hl 0 rfl) ?_
      refine lv_iload_n hx hb dX6_raw_22 rfl (lv_at hl 1 rfl) ?_
      refine lv_iload_n hx hb dX6_raw_23 rfl (lv_at hl 2 rfl) ?_
      refine lv_iload_n hx hb dX6_raw_24 rfl (lv_at hl 3 rfl) ?_
      refine gcallVi (As := [.int p1, .int p2, .int p3]) (rest := [.ref (adr 3)]) ⟨hx, hb, hml, hown, hts⟩ (c_X6_at l D cI cZ adr A hD p1 p2 p3 u11 _ h) (cwV 3 hts gX6_raw_X6_at rfl rfl rfl (by decide +kernel) ⟨Nat.le_of_ble_eq_true rfl, Nat.le_of_ble_eq_true rfl⟩) (va_recv hK hP (ci := 6) (q0 := 0) rfl rfl) hK hP hS rfl hl.1 rfl (Nat.le_of_ble_eq_true rfl) dX6_raw_25 ⟨Nat.le_refl _, Nat.le_refl _⟩ (fun r25 u25 H locs h hP hS => ?_)
      refine mwl_3 (v := ((u25.2 3) r25.toNatClampNeg)) hx hb hK hP h.1 dX6_raw_28 rfl ?_
      have h := h.2
      refine lv_goto (tgt := 35) hx hb dX6_raw_29 (by decide) ?_
      exact giret hx hb hr hlocks hK hP hS h dX6_raw_35
set_option maxRecDepth 100000 in
set_option maxHeartbeats 4000000 in
theorem c_X6_rule (l : Launch) (D : va_G) (cI cZ : ClassId) (adr : Nat → Nat) (A : Nat → Prop) (hD : ∀ u, va_D A (mw adr cI cZ u)) (p1 : Int32) (p2 : Int32) (u : US) (post : Int32 → US → Prop) (h : wp_X6_rule p1 p2 u post) : gMi l yX6_rule wsX6_rule 1 D cI cZ (mw adr cI cZ) A [.ref (adr 0), .int p1, .int p2] u post := by
  refine Met.ofW (cc := cX6_rule) (maxL := 4) (ret := (some .int)) (by decide) rfl ?_
  intro p e s m args below meth c s₁ B hml hv
  obtain ⟨rfl, hP, hK⟩ := hv
  have hx := B.exec
  have hb := B.bytes
  have hr := B.returns
  have hts := atoms_spec (ws := wsX6_rule) B.pre
  have hown : s.vm.findClass RX6 = some m.cls := findClass_of_methodNamed B.named
  have hlocks := B.notSynchronized
  have hinX6 : ∀ w ∈ wsX60, w ∈ wsX6_rule := by decide +kernel
  have hS : va_S A s.heap s.heap [] := va_S.rf
  have L40 : ∀ (s0 : Int32) (s1 : Int32) (s2 : Int32) (x1 : Int32) (x2 : Int32) (u : US) (H : Heap) (locs : List Loc) (ls : Array Slot), lv_has ls 4 [(0, .ref (adr 0)), (1, .int x1), (2, .int x2)] → va_P D vwCl (mw adr cI cZ u) H → va_S A s.heap H locs → wp_X6_rule_40  post s0 s1 s2 x1 x2 u → gWi p l e wsX6_rule 1 s m [.ref (adr 0), .int p1, .int p2] below meth c D cI cZ (mw adr cI cZ) A post H locs (F0 m 40 ls [.int s0, .int s1, .int s2]) := by
    intro  s0 s1 s2 x1 x2 u H locs ls hl hP hS h
    refine gcallSi (As := [.int s2, .int s1, .int s0]) (rest := []) ⟨hx, hb, hml, hown, hts⟩ (c_X6_in l D cI cZ adr A hD s2 s1 s0 u _ h) (va_cwS 3 hts gX6_rule_X6_in rfl rfl rfl (by decide +kernel) ⟨Nat.le_of_ble_eq_true rfl, Nat.le_of_ble_eq_true rfl⟩) hK hP hS rfl hl.1 rfl (Nat.le_of_ble_eq_true rfl) dX6_rule_40 ⟨Nat.le_refl _, Nat.le_refl _⟩ (fun r40 u40 H locs h hP hS => ?_)
    refine lv_if_ne (tgt := 48) hx hb dX6_rule_43 (by decide) (fun hc => ?_) (fun hc => ?_)
    · have h := h.2 hc
      refine lv_aload_n hx hb dX6_rule_48 rfl (lv_at hl 0 rfl) ?_
      refine mwg_0_10 hx hb hts hinX6 hown hK hP (hts (.fieldLink RX6 36 "FilmBenchModel" "rules" "[I") (by decide +kernel)) dX6_rule_49 ?_
      refine lv_iload_n hx hb dX6_rule_52 rfl (lv_at hl 1 rfl) ?_
      refine mwl_10 (v := ((u40.2 10) x1.toNatClampNeg)) hx hb hK hP h.1 dX6_rule_53 rfl ?_
      have h := h.2
      refine lv_istore_n (lv' := [(3, .int ((u40.2 10) x1.toNatClampNeg)), (0, .ref (adr 0)), (1, .int x1), (2, .int x2)]) hx hb dX6_rule_54 rfl hl (by decide) rfl (fun ls hl => ?_)
      refine lv_aload_n hx hb dX6_rule_55 rfl (lv_at hl 1 rfl) ?_
      refine mwg_0_10 hx hb hts hinX6 hown hK hP (hts (.fieldLink RX6 36 "FilmBenchModel" "rules" "[I") (by decide +kernel)) dX6_rule_56 ?_
      refine lv_iload_n hx hb dX6_rule_59 rfl (lv_at hl 2 rfl) ?_
      refine lv_iload_n hx hb dX6_rule_60 rfl (lv_at hl 3 rfl) ?_
      refine mws_10 hx hb hK hP (hD _) hS h.1 dX6_rule_61 (fun H locs hP hS => ?_)
      have h := h.2
      refine lv_iload_n hx hb dX6_rule_62 rfl (lv_at hl 0 rfl) ?_
      exact giret hx hb hr hlocks hK hP hS h dX6_rule_63
    · have h := h.1 hc
      refine lv_iconst (v := (-1 : Int32)) hx hb dX6_rule_46 (by decide) ?_
      exact giret hx hb hr hlocks hK hP hS h dX6_rule_47
  have L20 : ∀ (s0 : Int32) (s1 : Int32) (x1 : Int32) (x2 : Int32) (u : US) (H : Heap) (locs : List Loc) (ls : Array Slot), lv_has ls 4 [(0, .ref (adr 0)), (1, .int x1), (2, .int x2)] → va_P D vwCl (mw adr cI cZ u) H → va_S A s.heap H locs → wp_X6_rule_20  post s0 s1 x1 x2 u → gWi p l e wsX6_rule 1 s m [.ref (adr 0), .int p1, .int p2] below meth c D cI cZ (mw adr cI cZ) A post H locs (F0 m 20 ls [.int s0, .int s1]) := by
    intro  s0 s1 x1 x2 u H locs ls hl hP hS h
    refine lv_iload_n hx hb dX6_rule_20 rfl (lv_at hl 1 rfl) ?_
    refine lv_if_ne (tgt := 28) hx hb dX6_rule_21 (by decide) (fun hc => ?_) (fun hc => ?_)
    · have h := h.2 hc
      refine lv_iload_n hx hb dX6_rule_28 rfl (lv_at hl 1 rfl) ?_
      refine lv_iconst (v := (1 : Int32)) hx hb dX6_rule_29 (by decide) ?_
      refine lv_icmp_ne (tgt := 38) hx hb dX6_rule_30 (by decide) (fun hc => ?_) (fun hc => ?_)
      · have h := h.2 hc
        refine lv_bipush (v := (63 : Int32)) hx hb dX6_rule_38 (by decide) ?_
        exact L40  (63 : Int32) s0 s1 x1 x2 u _ _ _ (lv_sub hl [0, 1, 2] rfl) hP hS h
      · have h := h.1 hc
        refine lv_bipush (v := (10 : Int32)) hx hb dX6_rule_33 (by decide) ?_
        refine lv_goto (tgt := 40) hx hb dX6_rule_35 (by decide) ?_
        exact L40  (10 : Int32) s0 s1 x1 x2 u _ _ _ (lv_sub hl [0, 1, 2] rfl) hP hS h
    · have h := h.1 hc
      refine lv_iconst (v := (3 : Int32)) hx hb dX6_rule_24 (by decide) ?_
      refine lv_goto (tgt := 40) hx hb dX6_rule_25 (by decide) ?_
      exact L40  (3 : Int32) s0 s1 x1 x2 u _ _ _ (lv_sub hl [0, 1, 2] rfl) hP hS h
  have hl := lv_entry ([.ref (adr 0), .int p1, .int p2]) (n := 4) (Nat.le_of_ble_eq_true rfl)
  rw [lg_entry_eq]
  generalize (lg_sl ([.ref (adr 0), .int p1, .int p2]) ++ List.replicate (4 - (lg_sl ([.ref (adr 0), .int p1, .int p2])).length) Slot.unset).toArray = ls at hl ⊢
  replace hl : lv_has ls 4 [(0, .ref (adr 0)), (1, .int p1), (2, .int p2)] := hl
  refine lv_iload_n hx hb dX6_rule_0 rfl (lv_at hl 1 rfl) ?_
  refine lv_iconst (v := (0 : Int32)) hx hb dX6_rule_1 (by decide) ?_
  refine lv_iconst (v := (2 : Int32)) hx hb dX6_rule_2 (by decide) ?_
  refine gcallSi (As := [.int p1, .int (0 : Int32), .int (2 : Int32)]) (rest := []) ⟨hx, hb, hml, hown, hts⟩ (c_X6_in l D cI cZ adr A hD p1 (0 : Int32) (2 : Int32) u _ h) (va_cwS 3 hts gX6_rule_X6_in rfl rfl rfl (by decide +kernel) ⟨Nat.le_of_ble_eq_true rfl, Nat.le_of_ble_eq_true rfl⟩) hK hP hS rfl hl.1 rfl (Nat.le_of_ble_eq_true rfl) dX6_rule_3 ⟨Nat.le_refl _, Nat.le_refl _⟩ (fun r3 u3 H locs h hP hS => ?_)
  refine lv_if_eq (tgt := 46) hx hb dX6_rule_6 (by decide) (fun hc => ?_) (fun hc => ?_)
  · have h := h.1 hc
    refine lv_iconst (v := (-1 : Int32)) hx hb dX6_rule_46 (by decide) ?_
    exact giret hx hb hr hlocks hK hP hS h dX6_rule_47
  · have h := h.2 hc
    refine lv_iload_n hx hb dX6_rule_9 rfl (lv_at hl 2 rfl) ?_
    refine lv_iload_n hx hb dX6_rule_10 rfl (lv_at hl 1 rfl) ?_
    refine lv_iconst (v := (2 : Int32)) hx hb dX6_rule_11 (by decide) ?_
    refine lv_icmp_ne (tgt := 19) hx hb dX6_rule_12 (by decide) (fun hc => ?_) (fun hc => ?_)
    · have h := h.2 hc
      refine lv_iconst (v := (0 : Int32)) hx hb dX6_rule_19 (by decide) ?_
      exact L20  (0 : Int32) p2 p1 p2 u3 _ _ _ (lv_sub hl [0, 1, 2] rfl) hP hS h
    · have h := h.1 hc
      refine lv_iconst (v := (1 : Int32)) hx hb dX6_rule_15 (by decide) ?_
      refine lv_goto (tgt := 20) hx hb dX6_rule_16 (by decide) ?_
      exact L20  (1 : Int32) p2 p1 p2 u3 _ _ _ (lv_sub hl [0, 1, 2] rfl) hP hS h
